theorem hd_X6_bringBack : yX6_bringBack.cls = RX6 ∧ yX6_bringBack.cls ≠ "java/lang/invoke/MethodHandle" ∧ yX6_bringBack.cls ≠ "java/lang/invoke/VarHandle" ∧ (parseMethodDescriptor yX6_bringBack.desc).map (fun d => d.parameters.length) = some 0 := by decide +kernel
theorem hd_X6_changes : yX6_changes.cls = RX6 ∧ yX6_changes.cls ≠ "java/lang/invoke/MethodHandle" ∧ yX6_changes.cls ≠ "java/lang/invoke/VarHandle" ∧ (parseMethodDescriptor yX6_changes.desc).map (fun d => d.parameters.length) = some 4 := by decide +kernel
theorem hd_X6_goMonths : yX6_goMonths.cls = RX6 ∧ yX6_goMonths.cls ≠ "java/lang/invoke/MethodHandle" ∧ yX6_goMonths.cls ≠ "java/lang/invoke/VarHandle" ∧ (parseMethodDescriptor yX6_goMonths.desc).map (fun d => d.parameters.length) = some 1 := by decide +kernel
theorem hd_X6_putAside : yX6_putAside.cls = RX6 ∧ yX6_putAside.cls ≠ "java/lang/invoke/MethodHandle" ∧ yX6_putAside.cls ≠ "java/lang/invoke/VarHandle" ∧ (parseMethodDescriptor yX6_putAside.desc).map (fun d => d.parameters.length) = some 0 := by decide +kernel
theorem hd_X6_succeeds : yX6_succeeds.cls = RX6 ∧ yX6_succeeds.cls ≠ "java/lang/invoke/MethodHandle" ∧ yX6_succeeds.cls ≠ "java/lang/invoke/VarHandle" ∧ (parseMethodDescriptor yX6_succeeds.desc).map (fun d => d.parameters.length) = some 1 := by decide +kernel
theorem kX6_putAside_0 : Cond.fieldLink RX6 23 "SavingsCircleModel" "spare" "[I" ∈ wsX6_putAside := (List.mem_cons_of_mem _ (List.mem_append_left _ (List.mem_of_getElem? (i := 0) rfl)))
theorem kX6_putAside_1 : Cond.fieldLink RX6 7 "SavingsCircleModel" "z" "[I" ∈ wsX6_putAside := (List.mem_cons_of_mem _ (List.mem_append_left _ (List.mem_of_getElem? (i := 1) rfl)))
theorem iwX6_putAside_X6 : ∀ w ∈ wsX60, w ∈ wsX6_putAside := fun w h => (List.mem_cons_of_mem _ (List.mem_append_right _ h))
set_option maxHeartbeats 4000000 in
set_option maxRecDepth 100000 in
theorem w_X6_putAside_2 {p : Program} {l : Launch} {e : Env} {s : State} {m : MethodId} {args : Array Value} {below : List Frame} {meth : Method} {c : Code} {A : Nat → Prop} {Q : State → Prop} (S : Ev p s m args meth c cX6_putAside 2 none yX6_putAside.cls wsX6_putAside) {G : uG} (hK : kK G s) (hA : ∀ q, s.heap.size ≤ q → A q) (_ : uG) (a0 : Nat → Nat) : ∀ (n : Nat) (z : (Int32 × MdV)) (e1 : (Int32 × MdV)), lp (b_X6_putAside_2) n z = some e1 → ∀ (H : Heap) (locs : List Loc) (ls : Array Slot), gP G [mdW G a0 z.2] H → gD A [mdW G a0 z.2] → va_S A s.heap H locs → lv_has ls 2 [(0, .ref (a0 0)), (1, .int z.1)] → (∀ (H : Heap) (locs : List Loc) (ls : Array Slot), gP G [mdW G a0 e1.2] H → gD A [mdW G a0 e1.2] → va_S A s.heap H locs → lv_has ls 2 [(0, .ref (a0 0)), (1, .int e1.1)] → W p l e ({ frames := 0, cells := 0, slots := 0, locals := 0 } : Room) s m args below meth c H locs 0 0 Q (F0 m 27 ls [])) → W p l e ({ frames := 0, cells := 0, slots := 0, locals := 0 } : Room) s m args below meth c H locs 0 0 Q (F0 m 2 ls []) := by
  obtain ⟨hx, hb, hml, hown, hts, hr, hlocks⟩ := id S
  intro n
  induction n with
  | zero => intro z e1 h; cases h
  | succ n ih =>
    intro z e1 hlp H locs ls hP hD hS hl K
    obtain ⟨z9, hf, hz⟩ := lp_s hlp
    unfold b_X6_putAside_2 at hf
    refine lv_iload_n hx hb dX6_putAside_2 rfl (lv_at hl 1 rfl) ?_
    refine lv_sipush (v := (157:Int32)) hx hb dX6_putAside_3 (by decide) ?_
    refine lv_icmp_ge (tgt := 27) hx hb dX6_putAside_6 (by decide) (fun c1 => ?_) (fun c1 => ?_)
    · rw [if_pos c1] at hf
      have he := lz_r hf hz
      subst he
      exact K H locs ls hP hD hS (lv_sub hl [0, 1] rfl)
    · rw [if_neg c1] at hf
      refine lv_aload_n hx hb dX6_putAside_9 rfl (lv_at hl 0 rfl) ?_
      refine g_get (C := RX6) (T := TX6) (N := 15) hx hb hts iwX6_putAside_X6 hown hK hP 0 0 rfl rfl rfl 6 (Nat.le_of_ble_eq_true rfl) (hts _ kX6_putAside_0) (fun _ h9 => h9) rfl dX6_putAside_10 ?_
      refine lv_iload_n hx hb dX6_putAside_13 rfl (lv_at hl 1 rfl) ?_
      refine lv_aload_n hx hb dX6_putAside_14 rfl (lv_at hl 0 rfl) ?_
      refine g_get (C := RX6) (T := TX6) (N := 15) hx hb hts iwX6_putAside_X6 hown hK hP 0 0 rfl rfl rfl 1 (Nat.le_of_ble_eq_true rfl) (hts _ kX6_putAside_1) (fun _ h9 => h9) rfl dX6_putAside_15 ?_
      refine lv_iload_n hx hb dX6_putAside_18 rfl (lv_at hl 1 rfl) ?_
      obtain ⟨h2, hf⟩ := gi_some hf
      refine g_iald hx hb hK hP 0 1 0 rfl rfl rfl h2 dX6_putAside_19 ?_
      obtain ⟨h3, hf⟩ := gi_some hf
      obtain ⟨u4, eu4, hf⟩ := lt_some hf
      refine g_iast (gs' := [mdW G a0 u4]) hx hb hK hP hD hS 0 5 0 rfl rfl rfl h3 dX6_putAside_20 (by rw [eu4]; rfl) (fun H locs hP hD hS => ?_)
      obtain ⟨x5, ex5, hf⟩ := lt_some hf
      refine lv_iinc (v := x5) (lv' := [(1, .int x5), (0, .ref (a0 0))]) hx hb dX6_putAside_21 hl (k := 1) rfl (by rw [ex5]; rfl) (by decide) rfl (fun ls hl => ?_)
      refine lv_goto (tgt := 2) hx hb dX6_putAside_24 (by decide) ?_
      exact ih _ e1 (lz_l hf hz) H locs ls hP hD hS (lv_sub hl [1, 0] rfl) K
set_option maxHeartbeats 4000000 in
set_option maxRecDepth 100000 in
theorem c_X6_putAside (l : Launch) (G : uG) (a0 : Nat → Nat) (v0 : MdV) {q : Unit × (MdV)} (hf : f_X6_putAside v0 = some q) : mQ l yX6_putAside wsX6_putAside ({ frames := 0, cells := 0, slots := 0, locals := 0 } : Room) G [.ref (a0 0)] [mdW G a0 v0] [mdW G a0 q.2] (qV G [mdW G a0 q.2] q.1) := by
  unfold f_X6_putAside at hf
  refine m_of (cc := cX6_putAside) (maxL := 2) (ret := none) (by decide) rfl rfl (Nat.le_of_ble_eq_true rfl) ?_
  intro p e s m args below meth c A ls S hK hA hP hD hS hl
  obtain ⟨hx, hb, hml, hown, hts, hr, hlocks⟩ := id S
  have hl : lv_has ls 2 [(0, .ref (a0 0))] := hl
  refine lv_iconst (v := (0:Int32)) hx hb dX6_putAside_0 (by decide) ?_
  refine lv_istore_n (lv' := [(1, .int (0:Int32)), (0, .ref (a0 0))]) hx hb dX6_putAside_1 rfl hl (by decide) rfl (fun ls hl => ?_)
  obtain ⟨e6, he6, hf⟩ := bd_some hf
  refine w_X6_putAside_2 (Q := _) S hK hA G a0 FU _ e6 he6 _ _ _ hP hD hS (lv_sub hl [1, 0] rfl) (fun H locs ls hP hD hS hl => ?_)
  cases hf
  exact g_vret hx hb hr hlocks hP hS dX6_putAside_27
theorem kX6_bringBack_0 : Cond.fieldLink RX6 7 "SavingsCircleModel" "z" "[I" ∈ wsX6_bringBack := (List.mem_cons_of_mem _ (List.mem_append_left _ (List.mem_of_getElem? (i := 0) rfl)))
theorem kX6_bringBack_1 : Cond.fieldLink RX6 23 "SavingsCircleModel" "spare" "[I" ∈ wsX6_bringBack := (List.mem_cons_of_mem _ (List.mem_append_left _ (List.mem_of_getElem? (i := 1) rfl)))
theorem iwX6_bringBack_X6 : ∀ w ∈ wsX60, w ∈ wsX6_bringBack := fun w h => (List.mem_cons_of_mem _ (List.mem_append_right _ h))
set_option maxHeartbeats 4000000 in
set_option maxRecDepth 100000 in
theorem w_X6_bringBack_2 {p : Program} {l : Launch} {e : Env} {s : State} {m : MethodId} {args : Array Value} {below : List Frame} {meth : Method} {c : Code} {A : Nat → Prop} {Q : State → Prop} (S : Ev p s m args meth c cX6_bringBack 2 none yX6_bringBack.cls wsX6_bringBack) {G : uG} (hK : kK G s) (hA : ∀ q, s.heap.size ≤ q → A q) (_ : uG) (a0 : Nat → Nat) : ∀ (n : Nat) (z : (Int32 × MdV)) (e1 : (Int32 × MdV)), lp (b_X6_bringBack_2) n z = some e1 → ∀ (H : Heap) (locs : List Loc) (ls : Array Slot), gP G [mdW G a0 z.2] H → gD A [mdW G a0 z.2] → va_S A s.heap H locs → lv_has ls 2 [(0, .ref (a0 0)), (1, .int z.1)] → (∀ (H : Heap) (locs : List Loc) (ls : Array Slot), gP G [mdW G a0 e1.2] H → gD A [mdW G a0 e1.2] → va_S A s.heap H locs → lv_has ls 2 [(0, .ref (a0 0)), (1, .int e1.1)] → W p l e ({ frames := 0, cells := 0, slots := 0, locals := 0 } : Room) s m args below meth c H locs 0 0 Q (F0 m 27 ls [])) → W p l e ({ frames := 0, cells := 0, slots := 0, locals := 0 } : Room) s m args below meth c H locs 0 0 Q (F0 m 2 ls []) := by
  obtain ⟨hx, hb, hml, hown, hts, hr, hlocks⟩ := id S
  intro n
  induction n with
  | zero => intro z e1 h; cases h
  | succ n ih =>
    intro z e1 hlp H locs ls hP hD hS hl K
    obtain ⟨z9, hf, hz⟩ := lp_s hlp
    unfold b_X6_bringBack_2 at hf
    refine lv_iload_n hx hb dX6_bringBack_2 rfl (lv_at hl 1 rfl) ?_
    refine lv_sipush (v := (157:Int32)) hx hb dX6_bringBack_3 (by decide) ?_
    refine lv_icmp_ge (tgt := 27) hx hb dX6_bringBack_6 (by decide) (fun c1 => ?_) (fun c1 => ?_)
    · rw [if_pos c1] at hf
      have he := lz_r hf hz
      subst he
      exact K H locs ls hP hD hS (lv_sub hl [0, 1] rfl)
    · rw [if_neg c1] at hf
      refine lv_aload_n hx hb dX6_bringBack_9 rfl (lv_at hl 0 rfl) ?_
      refine g_get (C := RX6) (T := TX6) (N := 15) hx hb hts iwX6_bringBack_X6 hown hK hP 0 0 rfl rfl rfl 1 (Nat.le_of_ble_eq_true rfl) (hts _ kX6_bringBack_0) (fun _ h9 => h9) rfl dX6_bringBack_10 ?_
      refine lv_iload_n hx hb dX6_bringBack_13 rfl (lv_at hl 1 rfl) ?_
      refine lv_aload_n hx hb dX6_bringBack_14 rfl (lv_at hl 0 rfl) ?_
      refine g_get (C := RX6) (T := TX6) (N := 15) hx hb hts iwX6_bringBack_X6 hown hK hP 0 0 rfl rfl rfl 6 (Nat.le_of_ble_eq_true rfl) (hts _ kX6_bringBack_1) (fun _ h9 => h9) rfl dX6_bringBack_15 ?_
      refine lv_iload_n hx hb dX6_bringBack_18 rfl (lv_at hl 1 rfl) ?_
      obtain ⟨h2, hf⟩ := gi_some hf
      refine g_iald hx hb hK hP 0 5 0 rfl rfl rfl h2 dX6_bringBack_19 ?_
      obtain ⟨h3, hf⟩ := gi_some hf
      obtain ⟨u4, eu4, hf⟩ := lt_some hf
      refine g_iast (gs' := [mdW G a0 u4]) hx hb hK hP hD hS 0 1 0 rfl rfl rfl h3 dX6_bringBack_20 (by rw [eu4]; rfl) (fun H locs hP hD hS => ?_)
      obtain ⟨x5, ex5, hf⟩ := lt_some hf
      refine lv_iinc (v := x5) (lv' := [(1, .int x5), (0, .ref (a0 0))]) hx hb dX6_bringBack_21 hl (k := 1) rfl (by rw [ex5]; rfl) (by decide) rfl (fun ls hl => ?_)
      refine lv_goto (tgt := 2) hx hb dX6_bringBack_24 (by decide) ?_
      exact ih _ e1 (lz_l hf hz) H locs ls hP hD hS (lv_sub hl [1, 0] rfl) K
set_option maxHeartbeats 4000000 in
set_option maxRecDepth 100000 in
theorem c_X6_bringBack (l : Launch) (G : uG) (a0 : Nat → Nat) (v0 : MdV) {q : Unit × (MdV)} (hf : f_X6_bringBack v0 = some q) : mQ l yX6_bringBack wsX6_bringBack ({ frames := 0, cells := 0, slots := 0, locals := 0 } : Room) G [.ref (a0 0)] [mdW G a0 v0] [mdW G a0 q.2] (qV G [mdW G a0 q.2] q.1) := by
  unfold f_X6_bringBack at hf
  refine m_of (cc := cX6_bringBack) (maxL := 2) (ret := none) (by decide) rfl rfl (Nat.le_of_ble_eq_true rfl) ?_
  intro p e s m args below meth c A ls S hK hA hP hD hS hl
  obtain ⟨hx, hb, hml, hown, hts, hr, hlocks⟩ := id S
  have hl : lv_has ls 2 [(0, .ref (a0 0))] := hl
  refine lv_iconst (v := (0:Int32)) hx hb dX6_bringBack_0 (by decide) ?_
  refine lv_istore_n (lv' := [(1, .int (0:Int32)), (0, .ref (a0 0))]) hx hb dX6_bringBack_1 rfl hl (by decide) rfl (fun ls hl => ?_)
  obtain ⟨e6, he6, hf⟩ := bd_some hf
  refine w_X6_bringBack_2 (Q := _) S hK hA G a0 FU _ e6 he6 _ _ _ hP hD hS (lv_sub hl [1, 0] rfl) (fun H locs ls hP hD hS hl => ?_)
  cases hf
  exact g_vret hx hb hr hlocks hP hS dX6_bringBack_27
theorem kX6_winner_0 : Cond.fieldLink RX6 38 "SavingsCircleModel" "thrown" "I" ∈ wsX6_winner := (List.mem_cons_of_mem _ (List.mem_append_left _ (List.mem_append_left _ (List.mem_of_getElem? (i := 0) rfl))))
theorem iwX6_winner_X6 : ∀ w ∈ wsX60, w ∈ wsX6_winner := fun w h => (List.mem_cons_of_mem _ (List.mem_append_right _ h))
set_option maxHeartbeats 4000000 in
set_option maxRecDepth 100000 in
theorem c_X6_winner (l : Launch) (G : uG) (a0 : Nat → Nat) (v0 : MdV) {q : Int32 × (MdV)} (hf : f_X6_winner v0 = some q) : mQ l yX6_winner wsX6_winner ({ frames := 3, cells := 0, slots := 0, locals := 70 } : Room) G [.ref (a0 0)] [mdW G a0 v0] [mdW G a0 q.2] (qI G [mdW G a0 q.2] q.1) := by
  unfold f_X6_winner at hf
  refine m_of (cc := cX6_winner) (maxL := 2) (ret := (some .int)) (by decide) rfl rfl (Nat.le_of_ble_eq_true rfl) ?_
  intro p e s m args below meth c A ls S hK hA hP hD hS hl
  obtain ⟨hx, hb, hml, hown, hts, hr, hlocks⟩ := id S
  have hl : lv_has ls 2 [(0, .ref (a0 0))] := hl
  refine lv_aload_n hx hb dX6_winner_0 rfl (lv_at hl 0 rfl) ?_
  refine lv_iconst (v := (0:Int32)) hx hb dX6_winner_1 (by decide) ?_
  obtain ⟨u1, eu1, hf⟩ := lt_some hf
  refine g_put (ty := .int) (C := RX6) (T := TX6) (N := 15) (gs' := [mdW G a0 u1]) hx hb hts iwX6_winner_X6 tyX6 tyX6_ok nmX6 hown hK hP hD hS 0 0 rfl rfl rfl 0 (Nat.le_of_ble_eq_true rfl) (hts _ kX6_winner_0) (fun _ h9 => h9) rfl (by decide +kernel) rfl rfl (Nat.le_of_ble_eq_true rfl) dX6_winner_2 (by rw [eu1]; rfl) (fun H locs hP hD hS => ?_)
  refine lv_aload_n hx hb dX6_winner_5 rfl (lv_at hl 0 rfl) ?_
  obtain ⟨q2, hq2, hf⟩ := bd_some hf
  refine g_callVv S (As := []) (gs' := [mdW G a0 q2.2]) (c_X6_putAside l G a0 u1 hq2) (cwV 0 hts gX6_winner_X6_putAside rfl rfl rfl hd_X6_putAside ⟨Nat.le_of_ble_eq_true rfl, Nat.le_of_ble_eq_true rfl⟩) hK hP hD hS hA (is := [0]) rfl rfl 0 rfl rfl rfl rfl hl.1 rfl (Nat.le_of_ble_eq_true rfl) dX6_winner_6 ⟨Nat.le_of_ble_eq_true rfl, Nat.le_of_ble_eq_true rfl⟩ rfl (fun H locs hP hD hS => ?_)
  refine lv_aload_n hx hb dX6_winner_9 rfl (lv_at hl 0 rfl) ?_
  obtain ⟨q3, hq3, hf⟩ := bd_some hf
  refine g_callVi S (As := []) (gs' := [mdW G a0 q3.2]) (c_X6_goMonth l G a0 q2.2 hq3) (cwV 0 hts gX6_winner_X6_goMonth rfl rfl rfl hd_X6_goMonth ⟨Nat.le_of_ble_eq_true rfl, Nat.le_of_ble_eq_true rfl⟩) hK hP hD hS hA (is := [0]) rfl rfl 0 rfl rfl rfl rfl hl.1 rfl (Nat.le_of_ble_eq_true rfl) dX6_winner_10 ⟨Nat.le_of_ble_eq_true rfl, Nat.le_of_ble_eq_true rfl⟩ rfl (fun H locs hP hD hS => ?_)
  refine lv_istore_n (lv' := [(1, .int q3.1), (0, .ref (a0 0))]) hx hb dX6_winner_13 rfl hl (by decide) rfl (fun ls hl => ?_)
  refine lv_aload_n hx hb dX6_winner_14 rfl (lv_at hl 1 rfl) ?_
  obtain ⟨q4, hq4, hf⟩ := bd_some hf
  refine g_callVv S (As := []) (gs' := [mdW G a0 q4.2]) (c_X6_bringBack l G a0 q3.2 hq4) (cwV 0 hts gX6_winner_X6_bringBack rfl rfl rfl hd_X6_bringBack ⟨Nat.le_of_ble_eq_true rfl, Nat.le_of_ble_eq_true rfl⟩) hK hP hD hS hA (is := [0]) rfl rfl 0 rfl rfl rfl rfl hl.1 rfl (Nat.le_of_ble_eq_true rfl) dX6_winner_15 ⟨Nat.le_of_ble_eq_true rfl, Nat.le_of_ble_eq_true rfl⟩ rfl (fun H locs hP hD hS => ?_)
  refine lv_iload_n hx hb dX6_winner_18 rfl (lv_at hl 0 rfl) ?_
  cases hf
  exact g_iret hx hb hr hlocks hP hS dX6_winner_19
theorem kX6_pot_0 : Cond.fieldLink RX6 38 "SavingsCircleModel" "thrown" "I" ∈ wsX6_pot := (List.mem_cons_of_mem _ (List.mem_append_left _ (List.mem_append_left _ (List.mem_of_getElem? (i := 0) rfl))))
theorem kX6_pot_1 : Cond.fieldLink RX6 65 "SavingsCircleModel" "potNow" "I" ∈ wsX6_pot := (List.mem_cons_of_mem _ (List.mem_append_left _ (List.mem_append_left _ (List.mem_of_getElem? (i := 1) rfl))))
theorem iwX6_pot_X6 : ∀ w ∈ wsX60, w ∈ wsX6_pot := fun w h => (List.mem_cons_of_mem _ (List.mem_append_right _ h))
set_option maxHeartbeats 4000000 in
set_option maxRecDepth 100000 in
theorem c_X6_pot (l : Launch) (G : uG) (a0 : Nat → Nat) (v0 : MdV) {q : Int32 × (MdV)} (hf : f_X6_pot v0 = some q) : mQ l yX6_pot wsX6_pot ({ frames := 3, cells := 0, slots := 0, locals := 70 } : Room) G [.ref (a0 0)] [mdW G a0 v0] [mdW G a0 q.2] (qI G [mdW G a0 q.2] q.1) := by
  unfold f_X6_pot at hf
  refine m_of (cc := cX6_pot) (maxL := 1) (ret := (some .int)) (by decide) rfl rfl (Nat.le_of_ble_eq_true rfl) ?_
  intro p e s m args below meth c A ls S hK hA hP hD hS hl
  obtain ⟨hx, hb, hml, hown, hts, hr, hlocks⟩ := id S
  have hl : lv_has ls 1 [(0, .ref (a0 0))] := hl
  refine lv_aload_n hx hb dX6_pot_0 rfl (lv_at hl 0 rfl) ?_
  refine lv_iconst (v := (0:Int32)) hx hb dX6_pot_1 (by decide) ?_
  obtain ⟨u1, eu1, hf⟩ := lt_some hf
  refine g_put (ty := .int) (C := RX6) (T := TX6) (N := 15) (gs' := [mdW G a0 u1]) hx hb hts iwX6_pot_X6 tyX6 tyX6_ok nmX6 hown hK hP hD hS 0 0 rfl rfl rfl 0 (Nat.le_of_ble_eq_true rfl) (hts _ kX6_pot_0) (fun _ h9 => h9) rfl (by decide +kernel) rfl rfl (Nat.le_of_ble_eq_true rfl) dX6_pot_2 (by rw [eu1]; rfl) (fun H locs hP hD hS => ?_)
  refine lv_aload_n hx hb dX6_pot_5 rfl (lv_at hl 0 rfl) ?_
  obtain ⟨q2, hq2, hf⟩ := bd_some hf
  refine g_callVv S (As := []) (gs' := [mdW G a0 q2.2]) (c_X6_putAside l G a0 u1 hq2) (cwV 0 hts gX6_pot_X6_putAside rfl rfl rfl hd_X6_putAside ⟨Nat.le_of_ble_eq_true rfl, Nat.le_of_ble_eq_true rfl⟩) hK hP hD hS hA (is := [0]) rfl rfl 0 rfl rfl rfl rfl hl.1 rfl (Nat.le_of_ble_eq_true rfl) dX6_pot_6 ⟨Nat.le_of_ble_eq_true rfl, Nat.le_of_ble_eq_true rfl⟩ rfl (fun H locs hP hD hS => ?_)
  refine lv_aload_n hx hb dX6_pot_9 rfl (lv_at hl 0 rfl) ?_
  obtain ⟨q3, hq3, hf⟩ := bd_some hf
  refine g_callVi S (As := []) (gs' := [mdW G a0 q3.2]) (c_X6_goMonth l G a0 q2.2 hq3) (cwV 0 hts gX6_pot_X6_goMonth rfl rfl rfl hd_X6_goMonth ⟨Nat.le_of_ble_eq_true rfl, Nat.le_of_ble_eq_true rfl⟩) hK hP hD hS hA (is := [0]) rfl rfl 0 rfl rfl rfl rfl hl.1 rfl (Nat.le_of_ble_eq_true rfl) dX6_pot_10 ⟨Nat.le_of_ble_eq_true rfl, Nat.le_of_ble_eq_true rfl⟩ rfl (fun H locs hP hD hS => ?_)
  refine lv_pop hx hb dX6_pot_13 rfl ?_
  refine lv_aload_n hx hb dX6_pot_14 rfl (lv_at hl 0 rfl) ?_
  obtain ⟨q4, hq4, hf⟩ := bd_some hf
  refine g_callVv S (As := []) (gs' := [mdW G a0 q4.2]) (c_X6_bringBack l G a0 q3.2 hq4) (cwV 0 hts gX6_pot_X6_bringBack rfl rfl rfl hd_X6_bringBack ⟨Nat.le_of_ble_eq_true rfl, Nat.le_of_ble_eq_true rfl⟩) hK hP hD hS hA (is := [0]) rfl rfl 0 rfl rfl rfl rfl hl.1 rfl (Nat.le_of_ble_eq_true rfl) dX6_pot_15 ⟨Nat.le_of_ble_eq_true rfl, Nat.le_of_ble_eq_true rfl⟩ rfl (fun H locs hP hD hS => ?_)
  refine lv_aload_n hx hb dX6_pot_18 rfl (lv_at hl 0 rfl) ?_
  refine g_get (C := RX6) (T := TX6) (N := 15) hx hb hts iwX6_pot_X6 hown hK hP 0 0 rfl rfl rfl 11 (Nat.le_of_ble_eq_true rfl) (hts _ kX6_pot_1) (fun _ h9 => h9) rfl dX6_pot_19 ?_
  cases hf
  exact g_iret hx hb hr hlocks hP hS dX6_pot_22
theorem kX6_change_0 : Cond.fieldLink RX6 38 "SavingsCircleModel" "thrown" "I" ∈ wsX6_change := (List.mem_cons_of_mem _ (List.mem_append_left _ (List.mem_append_left _ (List.mem_of_getElem? (i := 0) rfl))))
theorem kX6_change_1 : Cond.fieldLink RX6 7 "SavingsCircleModel" "z" "[I" ∈ wsX6_change := (List.mem_cons_of_mem _ (List.mem_append_left _ (List.mem_append_left _ (List.mem_of_getElem? (i := 1) rfl))))
theorem kX6_change_2 : Cond.fieldLink RX6 23 "SavingsCircleModel" "spare" "[I" ∈ wsX6_change := (List.mem_cons_of_mem _ (List.mem_append_left _ (List.mem_append_left _ (List.mem_of_getElem? (i := 2) rfl))))
theorem iwX6_change_X6 : ∀ w ∈ wsX60, w ∈ wsX6_change := fun w h => (List.mem_cons_of_mem _ (List.mem_append_right _ h))
set_option maxHeartbeats 4000000 in
set_option maxRecDepth 100000 in
theorem c_X6_change (l : Launch) (G : uG) (a0 : Nat → Nat) (v0 : MdV) (i1 : Int32) {q : Int32 × (MdV)} (hf : f_X6_change v0 i1 = some q) : mQ l yX6_change wsX6_change ({ frames := 3, cells := 0, slots := 0, locals := 70 } : Room) G [.ref (a0 0), .int i1] [mdW G a0 v0] [mdW G a0 q.2] (qI G [mdW G a0 q.2] q.1) := by
  unfold f_X6_change at hf
  refine m_of (cc := cX6_change) (maxL := 3) (ret := (some .int)) (by decide) rfl rfl (Nat.le_of_ble_eq_true rfl) ?_
  intro p e s m args below meth c A ls S hK hA hP hD hS hl
  obtain ⟨hx, hb, hml, hown, hts, hr, hlocks⟩ := id S
  have hl : lv_has ls 3 [(0, .ref (a0 0)), (1, .int i1)] := hl
  refine lv_aload_n hx hb dX6_change_0 rfl (lv_at hl 0 rfl) ?_
  refine lv_aload_n hx hb dX6_change_1 rfl (lv_at hl 0 rfl) ?_
  refine lv_iload_n hx hb dX6_change_2 rfl (lv_at hl 1 rfl) ?_
  obtain ⟨q1, hq1, hf⟩ := bd_some hf
  refine g_callVi S (As := [.int i1]) (gs' := [mdW G a0 v0]) (c_X6_isMember l G a0 v0 i1 hq1) (cwV 1 hts gX6_change_X6_isMember rfl rfl rfl hd_X6_isMember ⟨Nat.le_of_ble_eq_true rfl, Nat.le_of_ble_eq_true rfl⟩) hK hP hD hS hA (is := [0]) rfl rfl 0 rfl rfl rfl rfl hl.1 rfl (Nat.le_of_ble_eq_true rfl) dX6_change_3 ⟨Nat.le_of_ble_eq_true rfl, Nat.le_of_ble_eq_true rfl⟩ rfl (fun H locs hP hD hS => ?_)
  refine lv_if_eq (tgt := 13) hx hb dX6_change_6 (by decide) (fun c2 => ?_) (fun c2 => ?_)
  · rw [if_pos c2] at hf
    refine lv_iconst (v := (1:Int32)) hx hb dX6_change_13 (by decide) ?_
    obtain ⟨u3, eu3, hf⟩ := lt_some hf
    refine g_put (ty := .int) (C := RX6) (T := TX6) (N := 15) (gs' := [mdW G a0 u3]) hx hb hts iwX6_change_X6 tyX6 tyX6_ok nmX6 hown hK hP hD hS 0 0 rfl rfl rfl 0 (Nat.le_of_ble_eq_true rfl) (hts _ kX6_change_0) (fun _ h9 => h9) rfl (by decide +kernel) rfl rfl (Nat.le_of_ble_eq_true rfl) dX6_change_14 (by rw [eu3]; rfl) (fun H locs hP hD hS => ?_)
    refine lv_aload_n hx hb dX6_change_17 rfl (lv_at hl 0 rfl) ?_
    refine g_get (C := RX6) (T := TX6) (N := 15) hx hb hts iwX6_change_X6 hown hK hP 0 0 rfl rfl rfl 0 (Nat.le_of_ble_eq_true rfl) (hts _ kX6_change_0) (fun _ h9 => h9) rfl dX6_change_18 ?_
    refine lv_if_le (tgt := 26) hx hb dX6_change_21 (by decide) (fun c4 => ?_) (fun c4 => ?_)
    · rw [if_pos c4] at hf
      refine lv_aload_n hx hb dX6_change_26 rfl (lv_at hl 0 rfl) ?_
      obtain ⟨q5, hq5, hf⟩ := bd_some hf
      refine g_callVv S (As := []) (gs' := [mdW G a0 q5.2]) (c_X6_putAside l G a0 u3 hq5) (cwV 0 hts gX6_change_X6_putAside rfl rfl rfl hd_X6_putAside ⟨Nat.le_of_ble_eq_true rfl, Nat.le_of_ble_eq_true rfl⟩) hK hP hD hS hA (is := [0]) rfl rfl 0 rfl rfl rfl rfl hl.1 rfl (Nat.le_of_ble_eq_true rfl) dX6_change_27 ⟨Nat.le_of_ble_eq_true rfl, Nat.le_of_ble_eq_true rfl⟩ rfl (fun H locs hP hD hS => ?_)
      refine lv_aload_n hx hb dX6_change_30 rfl (lv_at hl 0 rfl) ?_
      obtain ⟨q6, hq6, hf⟩ := bd_some hf
      refine g_callVi S (As := []) (gs' := [mdW G a0 q6.2]) (c_X6_goMonth l G a0 q5.2 hq6) (cwV 0 hts gX6_change_X6_goMonth rfl rfl rfl hd_X6_goMonth ⟨Nat.le_of_ble_eq_true rfl, Nat.le_of_ble_eq_true rfl⟩) hK hP hD hS hA (is := [0]) rfl rfl 0 rfl rfl rfl rfl hl.1 rfl (Nat.le_of_ble_eq_true rfl) dX6_change_31 ⟨Nat.le_of_ble_eq_true rfl, Nat.le_of_ble_eq_true rfl⟩ rfl (fun H locs hP hD hS => ?_)
      refine lv_pop hx hb dX6_change_34 rfl ?_
      refine lv_aload_n hx hb dX6_change_35 rfl (lv_at hl 0 rfl) ?_
      refine g_get (C := RX6) (T := TX6) (N := 15) hx hb hts iwX6_change_X6 hown hK hP 0 0 rfl rfl rfl 1 (Nat.le_of_ble_eq_true rfl) (hts _ kX6_change_1) (fun _ h9 => h9) rfl dX6_change_36 ?_
      refine lv_iconst (v := (5:Int32)) hx hb dX6_change_39 (by decide) ?_
      refine lv_iload_n hx hb dX6_change_40 rfl (lv_at hl 1 rfl) ?_
      refine lv_iadd hx hb dX6_change_41 ?_
      obtain ⟨h7, hf⟩ := gi_some hf
      refine g_iald hx hb hK hP 0 1 0 rfl rfl rfl h7 dX6_change_42 ?_
      refine lv_aload_n hx hb dX6_change_43 rfl (lv_at hl 0 rfl) ?_
      refine g_get (C := RX6) (T := TX6) (N := 15) hx hb hts iwX6_change_X6 hown hK hP 0 0 rfl rfl rfl 6 (Nat.le_of_ble_eq_true rfl) (hts _ kX6_change_2) (fun _ h9 => h9) rfl dX6_change_44 ?_
      refine lv_iconst (v := (5:Int32)) hx hb dX6_change_47 (by decide) ?_
      refine lv_iload_n hx hb dX6_change_48 rfl (lv_at hl 1 rfl) ?_
      refine lv_iadd hx hb dX6_change_49 ?_
      obtain ⟨h8, hf⟩ := gi_some hf
      refine g_iald hx hb hK hP 0 5 0 rfl rfl rfl h8 dX6_change_50 ?_
      refine lv_isub hx hb dX6_change_51 ?_
      obtain ⟨x9, ex9, hf⟩ := lt_some hf
      refine lv_nmi ex9 ?_
      refine lv_istore_n (lv' := [(2, .int x9), (0, .ref (a0 0)), (1, .int i1)]) hx hb dX6_change_52 rfl hl (by decide) rfl (fun ls hl => ?_)
      refine lv_aload_n hx hb dX6_change_53 rfl (lv_at hl 1 rfl) ?_
      obtain ⟨q10, hq10, hf⟩ := bd_some hf
      refine g_callVv S (As := []) (gs' := [mdW G a0 q10.2]) (c_X6_bringBack l G a0 q6.2 hq10) (cwV 0 hts gX6_change_X6_bringBack rfl rfl rfl hd_X6_bringBack ⟨Nat.le_of_ble_eq_true rfl, Nat.le_of_ble_eq_true rfl⟩) hK hP hD hS hA (is := [0]) rfl rfl 0 rfl rfl rfl rfl hl.1 rfl (Nat.le_of_ble_eq_true rfl) dX6_change_54 ⟨Nat.le_of_ble_eq_true rfl, Nat.le_of_ble_eq_true rfl⟩ rfl (fun H locs hP hD hS => ?_)
      refine lv_iload_n hx hb dX6_change_57 rfl (lv_at hl 0 rfl) ?_
      cases hf
      exact g_iret hx hb hr hlocks hP hS dX6_change_58
    · rw [if_neg c4] at hf
      refine lv_iconst (v := (0:Int32)) hx hb dX6_change_24 (by decide) ?_
      cases hf
      exact g_iret hx hb hr hlocks hP hS dX6_change_25
  · rw [if_neg c2] at hf
    refine lv_iconst (v := (0:Int32)) hx hb dX6_change_9 (by decide) ?_
    refine lv_goto (tgt := 14) hx hb dX6_change_10 (by decide) ?_
    obtain ⟨u11, eu11, hf⟩ := lt_some hf
    refine g_put (ty := .int) (C := RX6) (T := TX6) (N := 15) (gs' := [mdW G a0 u11]) hx hb hts iwX6_change_X6 tyX6 tyX6_ok nmX6 hown hK hP hD hS 0 0 rfl rfl rfl 0 (Nat.le_of_ble_eq_true rfl) (hts _ kX6_change_0) (fun _ h9 => h9) rfl (by decide +kernel) rfl rfl (Nat.le_of_ble_eq_true rfl) dX6_change_14 (by rw [eu11]; rfl) (fun H locs hP hD hS => ?_)
    refine lv_aload_n hx hb dX6_change_17 rfl (lv_at hl 0 rfl) ?_
    refine g_get (C := RX6) (T := TX6) (N := 15) hx hb hts iwX6_change_X6 hown hK hP 0 0 rfl rfl rfl 0 (Nat.le_of_ble_eq_true rfl) (hts _ kX6_change_0) (fun _ h9 => h9) rfl dX6_change_18 ?_
    refine lv_if_le (tgt := 26) hx hb dX6_change_21 (by decide) (fun c12 => ?_) (fun c12 => ?_)
    · rw [if_pos c12] at hf
      refine lv_aload_n hx hb dX6_change_26 rfl (lv_at hl 0 rfl) ?_
      obtain ⟨q13, hq13, hf⟩ := bd_some hf
      refine g_callVv S (As := []) (gs' := [mdW G a0 q13.2]) (c_X6_putAside l G a0 u11 hq13) (cwV 0 hts gX6_change_X6_putAside rfl rfl rfl hd_X6_putAside ⟨Nat.le_of_ble_eq_true rfl, Nat.le_of_ble_eq_true rfl⟩) hK hP hD hS hA (is := [0]) rfl rfl 0 rfl rfl rfl rfl hl.1 rfl (Nat.le_of_ble_eq_true rfl) dX6_change_27 ⟨Nat.le_of_ble_eq_true rfl, Nat.le_of_ble_eq_true rfl⟩ rfl (fun H locs hP hD hS => ?_)
      refine lv_aload_n hx hb dX6_change_30 rfl (lv_at hl 0 rfl) ?_
      obtain ⟨q14, hq14, hf⟩ := bd_some hf
      refine g_callVi S (As := []) (gs' := [mdW G a0 q14.2]) (c_X6_goMonth l G a0 q13.2 hq14) (cwV 0 hts gX6_change_X6_goMonth rfl rfl rfl hd_X6_goMonth ⟨Nat.le_of_ble_eq_true rfl, Nat.le_of_ble_eq_true rfl⟩) hK hP hD hS hA (is := [0]) rfl rfl 0 rfl rfl rfl rfl hl.1 rfl (Nat.le_of_ble_eq_true rfl) dX6_change_31 ⟨Nat.le_of_ble_eq_true rfl, Nat.le_of_ble_eq_true rfl⟩ rfl (fun H locs hP hD hS => ?_)
      refine lv_pop hx hb dX6_change_34 rfl ?_
      refine lv_aload_n hx hb dX6_change_35 rfl (lv_at hl 0 rfl) ?_
      refine g_get (C := RX6) (T := TX6) (N := 15) hx hb hts iwX6_change_X6 hown hK hP 0 0 rfl rfl rfl 1 (Nat.le_of_ble_eq_true rfl) (hts _ kX6_change_1) (fun _ h9 => h9) rfl dX6_change_36 ?_
      refine lv_iconst (v := (5:Int32)) hx hb dX6_change_39 (by decide) ?_
      refine lv_iload_n hx hb dX6_change_40 rfl (lv_at hl 1 rfl) ?_
      refine lv_iadd hx hb dX6_change_41 ?_
      obtain ⟨h15, hf⟩ := gi_some hf
      refine g_iald hx hb hK hP 0 1 0 rfl rfl rfl h15 dX6_change_42 ?_
      refine lv_aload_n hx hb dX6_change_43 rfl (lv_at hl 0 rfl) ?_
      refine g_get (C := RX6) (T := TX6) (N := 15) hx hb hts iwX6_change_X6 hown hK hP 0 0 rfl rfl rfl 6 (Nat.le_of_ble_eq_true rfl) (hts _ kX6_change_2) (fun _ h9 => h9) rfl dX6_change_44 ?_
      refine lv_iconst (v := (5:Int32)) hx hb dX6_change_47 (by decide) ?_
      refine lv_iload_n hx hb dX6_change_48 rfl (lv_at hl 1 rfl) ?_
      refine lv_iadd hx hb dX6_change_49 ?_
      obtain ⟨h16, hf⟩ := gi_some hf
      refine g_iald hx hb hK hP 0 5 0 rfl rfl rfl h16 dX6_change_50 ?_
      obtain ⟨x17, ex17, hf⟩ := lt_some hf
      refine lv_nmi ex17 ?_
      refine lv_isub hx hb dX6_change_51 ?_
      obtain ⟨x18, ex18, hf⟩ := lt_some hf
      refine lv_nmi ex18 ?_
      refine lv_istore_n (lv' := [(2, .int x18), (0, .ref (a0 0)), (1, .int i1)]) hx hb dX6_change_52 rfl hl (by decide) rfl (fun ls hl => ?_)
      refine lv_aload_n hx hb dX6_change_53 rfl (lv_at hl 1 rfl) ?_
      obtain ⟨q19, hq19, hf⟩ := bd_some hf
      refine g_callVv S (As := []) (gs' := [mdW G a0 q19.2]) (c_X6_bringBack l G a0 q14.2 hq19) (cwV 0 hts gX6_change_X6_bringBack rfl rfl rfl hd_X6_bringBack ⟨Nat.le_of_ble_eq_true rfl, Nat.le_of_ble_eq_true rfl⟩) hK hP hD hS hA (is := [0]) rfl rfl 0 rfl rfl rfl rfl hl.1 rfl (Nat.le_of_ble_eq_true rfl) dX6_change_54 ⟨Nat.le_of_ble_eq_true rfl, Nat.le_of_ble_eq_true rfl⟩ rfl (fun H locs hP hD hS => ?_)
      refine lv_iload_n hx hb dX6_change_57 rfl (lv_at hl 0 rfl) ?_
      cases hf
      exact g_iret hx hb hr hlocks hP hS dX6_change_58
    · rw [if_neg c12] at hf
      refine lv_iconst (v := (0:Int32)) hx hb dX6_change_24 (by decide) ?_
      cases hf
      exact g_iret hx hb hr hlocks hP hS dX6_change_25
theorem kX6_leastBid_0 : Cond.fieldLink RX6 38 "SavingsCircleModel" "thrown" "I" ∈ wsX6_leastBid := (List.mem_cons_of_mem _ (List.mem_append_left _ (List.mem_append_left _ (List.mem_of_getElem? (i := 0) rfl))))
theorem kX6_leastBid_1 : Cond.constant RX6 49 (-99999) ∈ wsX6_leastBid := (List.mem_cons_of_mem _ (List.mem_append_left _ (List.mem_append_left _ (List.mem_of_getElem? (i := 1) rfl))))
theorem kX6_leastBid_2 : Cond.fieldLink RX6 7 "SavingsCircleModel" "z" "[I" ∈ wsX6_leastBid := (List.mem_cons_of_mem _ (List.mem_append_left _ (List.mem_append_left _ (List.mem_of_getElem? (i := 2) rfl))))
theorem iwX6_leastBid_X6 : ∀ w ∈ wsX60, w ∈ wsX6_leastBid := fun w h => (List.mem_cons_of_mem _ (List.mem_append_right _ h))
set_option maxHeartbeats 4000000 in
set_option maxRecDepth 100000 in
theorem w_X6_leastBid_35 {p : Program} {l : Launch} {e : Env} {s : State} {m : MethodId} {args : Array Value} {below : List Frame} {meth : Method} {c : Code} {A : Nat → Prop} {Q : State → Prop} (S : Ev p s m args meth c cX6_leastBid 4 (some .int) yX6_leastBid.cls wsX6_leastBid) {G : uG} (hK : kK G s) (hA : ∀ q, s.heap.size ≤ q → A q) (_ : uG) (a0 : Nat → Nat) (p1 : Int32) : ∀ (n : Nat) (z : (Int32 × Int32 × MdV)) (e1 : (Int32 × Int32 × MdV)), lp (b_X6_leastBid_35 p1) n z = some e1 → ∀ (H : Heap) (locs : List Loc) (ls : Array Slot), gP G [mdW G a0 z.2.2] H → gD A [mdW G a0 z.2.2] → va_S A s.heap H locs → lv_has ls 4 [(0, .ref (a0 0)), (1, .int p1), (2, .int z.1), (3, .int z.2.1)] → (∀ (H : Heap) (locs : List Loc) (ls : Array Slot), gP G [mdW G a0 e1.2.2] H → gD A [mdW G a0 e1.2.2] → va_S A s.heap H locs → lv_has ls 4 [(0, .ref (a0 0)), (1, .int p1), (2, .int e1.1), (3, .int e1.2.1)] → W p l e ({ frames := 3, cells := 0, slots := 0, locals := 70 } : Room) s m args below meth c H locs 0 0 Q (F0 m 83 ls [])) → W p l e ({ frames := 3, cells := 0, slots := 0, locals := 70 } : Room) s m args below meth c H locs 0 0 Q (F0 m 35 ls []) := by
  obtain ⟨hx, hb, hml, hown, hts, hr, hlocks⟩ := id S
  intro n
  induction n with
  | zero => intro z e1 h; cases h
  | succ n ih =>
    intro z e1 hlp H locs ls hP hD hS hl K
    obtain ⟨z9, hf, hz⟩ := lp_s hlp
    unfold b_X6_leastBid_35 at hf
    refine lv_iload_n hx hb dX6_leastBid_35 rfl (lv_at hl 3 rfl) ?_
    refine lv_sipush (v := (999:Int32)) hx hb dX6_leastBid_36 (by decide) ?_
    refine lv_icmp_gt (tgt := 83) hx hb dX6_leastBid_39 (by decide) (fun c6 => ?_) (fun c6 => ?_)
    · rw [if_pos c6] at hf
      have he := lz_r hf hz
      subst he
      exact K H locs ls hP hD hS (lv_sub hl [0, 1, 2, 3] rfl)
    · rw [if_neg c6] at hf
      refine lv_iload_n hx hb dX6_leastBid_42 rfl (lv_at hl 2 rfl) ?_
      refine lv_ldc (v := (-99999:Int32)) hx hb hown (hts _ kX6_leastBid_1) dX6_leastBid_43 ?_
      refine lv_icmp_ne (tgt := 83) hx hb dX6_leastBid_45 (by decide) (fun c7 => ?_) (fun c7 => ?_)
      · rw [if_neg c7] at hf
        have he := lz_r hf hz
        subst he
        exact K H locs ls hP hD hS (lv_sub hl [0, 1, 2, 3] rfl)
      · rw [if_pos c7] at hf
        refine lv_aload_n hx hb dX6_leastBid_48 rfl (lv_at hl 0 rfl) ?_
        refine g_get (C := RX6) (T := TX6) (N := 15) hx hb hts iwX6_leastBid_X6 hown hK hP 0 0 rfl rfl rfl 1 (Nat.le_of_ble_eq_true rfl) (hts _ kX6_leastBid_2) (fun _ h9 => h9) rfl dX6_leastBid_49 ?_
        refine lv_bipush (v := (21:Int32)) hx hb dX6_leastBid_52 (by decide) ?_
        refine lv_iload_n hx hb dX6_leastBid_54 rfl (lv_at hl 1 rfl) ?_
        refine lv_iadd hx hb dX6_leastBid_55 ?_
        refine lv_iload_n hx hb dX6_leastBid_56 rfl (lv_at hl 3 rfl) ?_
        obtain ⟨h8, hf⟩ := gi_some hf
        obtain ⟨u9, eu9, hf⟩ := lt_some hf
        refine g_iast (gs' := [mdW G a0 u9]) hx hb hK hP hD hS 0 1 0 rfl rfl rfl h8 dX6_leastBid_57 (by rw [eu9]; rfl) (fun H locs hP hD hS => ?_)
        refine lv_aload_n hx hb dX6_leastBid_58 rfl (lv_at hl 0 rfl) ?_
        obtain ⟨q10, hq10, hf⟩ := bd_some hf
        refine g_callVi S (As := []) (gs' := [mdW G a0 q10.2]) (c_X6_goMonth l G a0 u9 hq10) (cwV 0 hts gX6_leastBid_X6_goMonth rfl rfl rfl hd_X6_goMonth ⟨Nat.le_of_ble_eq_true rfl, Nat.le_of_ble_eq_true rfl⟩) hK hP hD hS hA (is := [0]) rfl rfl 0 rfl rfl rfl rfl hl.1 rfl (Nat.le_of_ble_eq_true rfl) dX6_leastBid_59 ⟨Nat.le_of_ble_eq_true rfl, Nat.le_of_ble_eq_true rfl⟩ rfl (fun H locs hP hD hS => ?_)
        refine lv_iload_n hx hb dX6_leastBid_62 rfl (lv_at hl 1 rfl) ?_
        refine lv_icmp_ne (tgt := 70) hx hb dX6_leastBid_63 (by decide) (fun c11 => ?_) (fun c11 => ?_)
        · rw [if_neg c11] at hf
          refine lv_ldc (v := (-99999:Int32)) hx hb hown (hts _ kX6_leastBid_1) dX6_leastBid_70 ?_
          refine lv_istore_n (lv' := [(2, .int (-99999:Int32)), (0, .ref (a0 0)), (1, .int p1), (3, .int z.2.1)]) hx hb dX6_leastBid_72 rfl hl (by decide) rfl (fun ls hl => ?_)
          refine lv_aload_n hx hb dX6_leastBid_73 rfl (lv_at hl 1 rfl) ?_
          obtain ⟨q12, hq12, hf⟩ := bd_some hf
          refine g_callVv S (As := []) (gs' := [mdW G a0 q12.2]) (c_X6_bringBack l G a0 q10.2 hq12) (cwV 0 hts gX6_leastBid_X6_bringBack rfl rfl rfl hd_X6_bringBack ⟨Nat.le_of_ble_eq_true rfl, Nat.le_of_ble_eq_true rfl⟩) hK hP hD hS hA (is := [0]) rfl rfl 0 rfl rfl rfl rfl hl.1 rfl (Nat.le_of_ble_eq_true rfl) dX6_leastBid_74 ⟨Nat.le_of_ble_eq_true rfl, Nat.le_of_ble_eq_true rfl⟩ rfl (fun H locs hP hD hS => ?_)
          obtain ⟨x13, ex13, hf⟩ := lt_some hf
          refine lv_iinc (v := x13) (lv' := [(3, .int x13), (2, .int (-99999:Int32)), (0, .ref (a0 0)), (1, .int p1)]) hx hb dX6_leastBid_77 hl (k := 3) rfl (by rw [ex13]; rfl) (by decide) rfl (fun ls hl => ?_)
          refine lv_goto (tgt := 35) hx hb dX6_leastBid_80 (by decide) ?_
          exact ih _ e1 (lz_l hf hz) H locs ls hP hD hS (lv_sub hl [2, 3, 1, 0] rfl) K
        · rw [if_pos c11] at hf
          refine lv_iload_n hx hb dX6_leastBid_66 rfl (lv_at hl 3 rfl) ?_
          refine lv_goto (tgt := 72) hx hb dX6_leastBid_67 (by decide) ?_
          refine lv_istore_n (lv' := [(2, .int z.2.1), (0, .ref (a0 0)), (1, .int p1), (3, .int z.2.1)]) hx hb dX6_leastBid_72 rfl hl (by decide) rfl (fun ls hl => ?_)
          refine lv_aload_n hx hb dX6_leastBid_73 rfl (lv_at hl 1 rfl) ?_
          obtain ⟨q14, hq14, hf⟩ := bd_some hf
          refine g_callVv S (As := []) (gs' := [mdW G a0 q14.2]) (c_X6_bringBack l G a0 q10.2 hq14) (cwV 0 hts gX6_leastBid_X6_bringBack rfl rfl rfl hd_X6_bringBack ⟨Nat.le_of_ble_eq_true rfl, Nat.le_of_ble_eq_true rfl⟩) hK hP hD hS hA (is := [0]) rfl rfl 0 rfl rfl rfl rfl hl.1 rfl (Nat.le_of_ble_eq_true rfl) dX6_leastBid_74 ⟨Nat.le_of_ble_eq_true rfl, Nat.le_of_ble_eq_true rfl⟩ rfl (fun H locs hP hD hS => ?_)
          obtain ⟨x15, ex15, hf⟩ := lt_some hf
          refine lv_iinc (v := x15) (lv' := [(3, .int x15), (2, .int z.2.1), (0, .ref (a0 0)), (1, .int p1)]) hx hb dX6_leastBid_77 hl (k := 3) rfl (by rw [ex15]; rfl) (by decide) rfl (fun ls hl => ?_)
          refine lv_goto (tgt := 35) hx hb dX6_leastBid_80 (by decide) ?_
          exact ih _ e1 (lz_l hf hz) H locs ls hP hD hS (lv_sub hl [2, 3, 1, 0] rfl) K
set_option maxHeartbeats 4000000 in
set_option maxRecDepth 100000 in
theorem c_X6_leastBid (l : Launch) (G : uG) (a0 : Nat → Nat) (v0 : MdV) (i1 : Int32) {q : Int32 × (MdV)} (hf : f_X6_leastBid v0 i1 = some q) : mQ l yX6_leastBid wsX6_leastBid ({ frames := 3, cells := 0, slots := 0, locals := 70 } : Room) G [.ref (a0 0), .int i1] [mdW G a0 v0] [mdW G a0 q.2] (qI G [mdW G a0 q.2] q.1) := by
  unfold f_X6_leastBid at hf
  refine m_of (cc := cX6_leastBid) (maxL := 4) (ret := (some .int)) (by decide) rfl rfl (Nat.le_of_ble_eq_true rfl) ?_
  intro p e s m args below meth c A ls S hK hA hP hD hS hl
  obtain ⟨hx, hb, hml, hown, hts, hr, hlocks⟩ := id S
  have hl : lv_has ls 4 [(0, .ref (a0 0)), (1, .int i1)] := hl
  refine lv_aload_n hx hb dX6_leastBid_0 rfl (lv_at hl 0 rfl) ?_
  refine lv_aload_n hx hb dX6_leastBid_1 rfl (lv_at hl 0 rfl) ?_
  refine lv_iload_n hx hb dX6_leastBid_2 rfl (lv_at hl 1 rfl) ?_
  obtain ⟨q1, hq1, hf⟩ := bd_some hf
  refine g_callVi S (As := [.int i1]) (gs' := [mdW G a0 v0]) (c_X6_isMember l G a0 v0 i1 hq1) (cwV 1 hts gX6_leastBid_X6_isMember rfl rfl rfl hd_X6_isMember ⟨Nat.le_of_ble_eq_true rfl, Nat.le_of_ble_eq_true rfl⟩) hK hP hD hS hA (is := [0]) rfl rfl 0 rfl rfl rfl rfl hl.1 rfl (Nat.le_of_ble_eq_true rfl) dX6_leastBid_3 ⟨Nat.le_of_ble_eq_true rfl, Nat.le_of_ble_eq_true rfl⟩ rfl (fun H locs hP hD hS => ?_)
  refine lv_if_eq (tgt := 13) hx hb dX6_leastBid_6 (by decide) (fun c2 => ?_) (fun c2 => ?_)
  · rw [if_pos c2] at hf
    refine lv_iconst (v := (1:Int32)) hx hb dX6_leastBid_13 (by decide) ?_
    obtain ⟨u3, eu3, hf⟩ := lt_some hf
    refine g_put (ty := .int) (C := RX6) (T := TX6) (N := 15) (gs' := [mdW G a0 u3]) hx hb hts iwX6_leastBid_X6 tyX6 tyX6_ok nmX6 hown hK hP hD hS 0 0 rfl rfl rfl 0 (Nat.le_of_ble_eq_true rfl) (hts _ kX6_leastBid_0) (fun _ h9 => h9) rfl (by decide +kernel) rfl rfl (Nat.le_of_ble_eq_true rfl) dX6_leastBid_14 (by rw [eu3]; rfl) (fun H locs hP hD hS => ?_)
    refine lv_aload_n hx hb dX6_leastBid_17 rfl (lv_at hl 0 rfl) ?_
    refine g_get (C := RX6) (T := TX6) (N := 15) hx hb hts iwX6_leastBid_X6 hown hK hP 0 0 rfl rfl rfl 0 (Nat.le_of_ble_eq_true rfl) (hts _ kX6_leastBid_0) (fun _ h9 => h9) rfl dX6_leastBid_18 ?_
    refine lv_if_le (tgt := 26) hx hb dX6_leastBid_21 (by decide) (fun c4 => ?_) (fun c4 => ?_)
    · rw [if_pos c4] at hf
      refine lv_ldc (v := (-99999:Int32)) hx hb hown (hts _ kX6_leastBid_1) dX6_leastBid_26 ?_
      refine lv_istore_n (lv' := [(2, .int (-99999:Int32)), (0, .ref (a0 0)), (1, .int i1)]) hx hb dX6_leastBid_28 rfl hl (by decide) rfl (fun ls hl => ?_)
      refine lv_aload_n hx hb dX6_leastBid_29 rfl (lv_at hl 1 rfl) ?_
      obtain ⟨q5, hq5, hf⟩ := bd_some hf
      refine g_callVv S (As := []) (gs' := [mdW G a0 q5.2]) (c_X6_putAside l G a0 u3 hq5) (cwV 0 hts gX6_leastBid_X6_putAside rfl rfl rfl hd_X6_putAside ⟨Nat.le_of_ble_eq_true rfl, Nat.le_of_ble_eq_true rfl⟩) hK hP hD hS hA (is := [0]) rfl rfl 0 rfl rfl rfl rfl hl.1 rfl (Nat.le_of_ble_eq_true rfl) dX6_leastBid_30 ⟨Nat.le_of_ble_eq_true rfl, Nat.le_of_ble_eq_true rfl⟩ rfl (fun H locs hP hD hS => ?_)
      refine lv_iconst (v := (0:Int32)) hx hb dX6_leastBid_33 (by decide) ?_
      refine lv_istore_n (lv' := [(3, .int (0:Int32)), (2, .int (-99999:Int32)), (0, .ref (a0 0)), (1, .int i1)]) hx hb dX6_leastBid_34 rfl hl (by decide) rfl (fun ls hl => ?_)
      obtain ⟨e16, he16, hf⟩ := bd_some hf
      refine w_X6_leastBid_35 (Q := _) S hK hA G a0 i1 FU _ e16 he16 _ _ _ hP hD hS (lv_sub hl [2, 3, 1, 0] rfl) (fun H locs ls hP hD hS hl => ?_)
      refine lv_iload_n hx hb dX6_leastBid_83 rfl (lv_at hl 2 rfl) ?_
      cases hf
      exact g_iret hx hb hr hlocks hP hS dX6_leastBid_84
    · rw [if_neg c4] at hf
      refine lv_iconst (v := (0:Int32)) hx hb dX6_leastBid_24 (by decide) ?_
      cases hf
      exact g_iret hx hb hr hlocks hP hS dX6_leastBid_25
  · rw [if_neg c2] at hf
    refine lv_iconst (v := (0:Int32)) hx hb dX6_leastBid_9 (by decide) ?_
    refine lv_goto (tgt := 14) hx hb dX6_leastBid_10 (by decide) ?_
    obtain ⟨u17, eu17, hf⟩ := lt_some hf
    refine g_put (ty := .int) (C := RX6) (T := TX6) (N := 15) (gs' := [mdW G a0 u17]) hx hb hts iwX6_leastBid_X6 tyX6 tyX6_ok nmX6 hown hK hP hD hS 0 0 rfl rfl rfl 0 (Nat.le_of_ble_eq_true rfl) (hts _ kX6_leastBid_0) (fun _ h9 => h9) rfl (by decide +kernel) rfl rfl (Nat.le_of_ble_eq_true rfl) dX6_leastBid_14 (by rw [eu17]; rfl) (fun H locs hP hD hS => ?_)
    refine lv_aload_n hx hb dX6_leastBid_17 rfl (lv_at hl 0 rfl) ?_
    refine g_get (C := RX6) (T := TX6) (N := 15) hx hb hts iwX6_leastBid_X6 hown hK hP 0 0 rfl rfl rfl 0 (Nat.le_of_ble_eq_true rfl) (hts _ kX6_leastBid_0) (fun _ h9 => h9) rfl dX6_leastBid_18 ?_
    refine lv_if_le (tgt := 26) hx hb dX6_leastBid_21 (by decide) (fun c18 => ?_) (fun c18 => ?_)
    · rw [if_pos c18] at hf
      refine lv_ldc (v := (-99999:Int32)) hx hb hown (hts _ kX6_leastBid_1) dX6_leastBid_26 ?_
      refine lv_istore_n (lv' := [(2, .int (-99999:Int32)), (0, .ref (a0 0)), (1, .int i1)]) hx hb dX6_leastBid_28 rfl hl (by decide) rfl (fun ls hl => ?_)
      refine lv_aload_n hx hb dX6_leastBid_29 rfl (lv_at hl 1 rfl) ?_
      obtain ⟨q19, hq19, hf⟩ := bd_some hf
      refine g_callVv S (As := []) (gs' := [mdW G a0 q19.2]) (c_X6_putAside l G a0 u17 hq19) (cwV 0 hts gX6_leastBid_X6_putAside rfl rfl rfl hd_X6_putAside ⟨Nat.le_of_ble_eq_true rfl, Nat.le_of_ble_eq_true rfl⟩) hK hP hD hS hA (is := [0]) rfl rfl 0 rfl rfl rfl rfl hl.1 rfl (Nat.le_of_ble_eq_true rfl) dX6_leastBid_30 ⟨Nat.le_of_ble_eq_true rfl, Nat.le_of_ble_eq_true rfl⟩ rfl (fun H locs hP hD hS => ?_)
      refine lv_iconst (v := (0:Int32)) hx hb dX6_leastBid_33 (by decide) ?_
      refine lv_istore_n (lv' := [(3, .int (0:Int32)), (2, .int (-99999:Int32)), (0, .ref (a0 0)), (1, .int i1)]) hx hb dX6_leastBid_34 rfl hl (by decide) rfl (fun ls hl => ?_)
      obtain ⟨e20, he20, hf⟩ := bd_some hf
      refine w_X6_leastBid_35 (Q := _) S hK hA G a0 i1 FU _ e20 he20 _ _ _ hP hD hS (lv_sub hl [2, 3, 1, 0] rfl) (fun H locs ls hP hD hS hl => ?_)
      refine lv_iload_n hx hb dX6_leastBid_83 rfl (lv_at hl 2 rfl) ?_
      cases hf
      exact g_iret hx hb hr hlocks hP hS dX6_leastBid_84
    · rw [if_neg c18] at hf
      refine lv_iconst (v := (0:Int32)) hx hb dX6_leastBid_24 (by decide) ?_
      cases hf
      exact g_iret hx hb hr hlocks hP hS dX6_leastBid_25
theorem kX6_pillar_0 : Cond.fieldLink RX6 38 "SavingsCircleModel" "thrown" "I" ∈ wsX6_pillar := (List.mem_cons_of_mem _ (List.mem_append_left _ (List.mem_append_left _ (List.mem_of_getElem? (i := 0) rfl))))
theorem kX6_pillar_1 : Cond.constant RX6 49 (-99999) ∈ wsX6_pillar := (List.mem_cons_of_mem _ (List.mem_append_left _ (List.mem_append_left _ (List.mem_of_getElem? (i := 1) rfl))))
theorem kX6_pillar_2 : Cond.fieldLink RX6 7 "SavingsCircleModel" "z" "[I" ∈ wsX6_pillar := (List.mem_cons_of_mem _ (List.mem_append_left _ (List.mem_append_left _ (List.mem_of_getElem? (i := 2) rfl))))
theorem kX6_pillar_3 : Cond.fieldLink RX6 65 "SavingsCircleModel" "potNow" "I" ∈ wsX6_pillar := (List.mem_cons_of_mem _ (List.mem_append_left _ (List.mem_append_left _ (List.mem_of_getElem? (i := 3) rfl))))
theorem iwX6_pillar_X6 : ∀ w ∈ wsX60, w ∈ wsX6_pillar := fun w h => (List.mem_cons_of_mem _ (List.mem_append_right _ h))
set_option maxHeartbeats 4000000 in
set_option maxRecDepth 100000 in
theorem w_X6_pillar_16 {p : Program} {l : Launch} {e : Env} {s : State} {m : MethodId} {args : Array Value} {below : List Frame} {meth : Method} {c : Code} {A : Nat → Prop} {Q : State → Prop} (S : Ev p s m args meth c cX6_pillar 4 (some .int) yX6_pillar.cls wsX6_pillar) {G : uG} (hK : kK G s) (hA : ∀ q, s.heap.size ≤ q → A q) (_ : uG) (a0 : Nat → Nat) : ∀ (n : Nat) (z : (Int32 × Int32 × Int32 × MdV)) (e1 : (Int32 × Int32 × Int32 × MdV)), lp (b_X6_pillar_16) n z = some e1 → ∀ (H : Heap) (locs : List Loc) (ls : Array Slot), gP G [mdW G a0 z.2.2.2] H → gD A [mdW G a0 z.2.2.2] → va_S A s.heap H locs → lv_has ls 4 [(0, .ref (a0 0)), (1, .int z.1), (2, .int z.2.1), (3, .int z.2.2.1)] → (∀ (H : Heap) (locs : List Loc) (ls : Array Slot), gP G [mdW G a0 e1.2.2.2] H → gD A [mdW G a0 e1.2.2.2] → va_S A s.heap H locs → lv_has ls 4 [(0, .ref (a0 0)), (1, .int e1.1), (2, .int e1.2.1), (3, .int e1.2.2.1)] → W p l e ({ frames := 3, cells := 0, slots := 0, locals := 70 } : Room) s m args below meth c H locs 0 0 Q (F0 m 85 ls [])) → W p l e ({ frames := 3, cells := 0, slots := 0, locals := 70 } : Room) s m args below meth c H locs 0 0 Q (F0 m 16 ls []) := by
  obtain ⟨hx, hb, hml, hown, hts, hr, hlocks⟩ := id S
  intro n
  induction n with
  | zero => intro z e1 h; cases h
  | succ n ih =>
    intro z e1 hlp H locs ls hP hD hS hl K
    obtain ⟨z9, hf, hz⟩ := lp_s hlp
    unfold b_X6_pillar_16 at hf
    refine lv_iload_n hx hb dX6_pillar_16 rfl (lv_at hl 3 rfl) ?_
    refine lv_aload_n hx hb dX6_pillar_17 rfl (lv_at hl 0 rfl) ?_
    refine g_get (C := RX6) (T := TX6) (N := 15) hx hb hts iwX6_pillar_X6 hown hK hP 0 0 rfl rfl rfl 1 (Nat.le_of_ble_eq_true rfl) (hts _ kX6_pillar_2) (fun _ h9 => h9) rfl dX6_pillar_18 ?_
    refine lv_iconst (v := (0:Int32)) hx hb dX6_pillar_21 (by decide) ?_
    obtain ⟨h3, hf⟩ := gi_some hf
    refine g_iald hx hb hK hP 0 1 0 rfl rfl rfl h3 dX6_pillar_22 ?_
    refine lv_icmp_ge (tgt := 85) hx hb dX6_pillar_23 (by decide) (fun c4 => ?_) (fun c4 => ?_)
    · rw [if_pos c4] at hf
      have he := lz_r hf hz
      subst he
      exact K H locs ls hP hD hS (lv_sub hl [0, 1, 2, 3] rfl)
    · rw [if_neg c4] at hf
      refine lv_aload_n hx hb dX6_pillar_26 rfl (lv_at hl 0 rfl) ?_
      refine g_get (C := RX6) (T := TX6) (N := 15) hx hb hts iwX6_pillar_X6 hown hK hP 0 0 rfl rfl rfl 1 (Nat.le_of_ble_eq_true rfl) (hts _ kX6_pillar_2) (fun _ h9 => h9) rfl dX6_pillar_27 ?_
      refine lv_bipush (v := (45:Int32)) hx hb dX6_pillar_30 (by decide) ?_
      refine lv_iload_n hx hb dX6_pillar_32 rfl (lv_at hl 3 rfl) ?_
      refine lv_iadd hx hb dX6_pillar_33 ?_
      obtain ⟨h5, hf⟩ := gi_some hf
      refine g_iald hx hb hK hP 0 1 0 rfl rfl rfl h5 dX6_pillar_34 ?_
      obtain ⟨x6, ex6, hf⟩ := lt_some hf
      refine lv_nmi ex6 ?_
      refine lv_iconst (v := (1:Int32)) hx hb dX6_pillar_35 (by decide) ?_
      refine lv_icmp_ne (tgt := 79) hx hb dX6_pillar_36 (by decide) (fun c7 => ?_) (fun c7 => ?_)
      · rw [if_neg c7] at hf
        obtain ⟨x8, ex8, hf⟩ := lt_some hf
        refine lv_iinc (v := x8) (lv' := [(3, .int x8), (0, .ref (a0 0)), (1, .int z.1), (2, .int z.2.1)]) hx hb dX6_pillar_79 hl (k := 3) rfl (by rw [ex8]; rfl) (by decide) rfl (fun ls hl => ?_)
        refine lv_goto (tgt := 16) hx hb dX6_pillar_82 (by decide) ?_
        exact ih _ e1 (lz_l hf hz) H locs ls hP hD hS (lv_sub hl [1, 2, 3, 0] rfl) K
      · rw [if_pos c7] at hf
        refine lv_aload_n hx hb dX6_pillar_39 rfl (lv_at hl 0 rfl) ?_
        refine g_get (C := RX6) (T := TX6) (N := 15) hx hb hts iwX6_pillar_X6 hown hK hP 0 0 rfl rfl rfl 1 (Nat.le_of_ble_eq_true rfl) (hts _ kX6_pillar_2) (fun _ h9 => h9) rfl dX6_pillar_40 ?_
        refine lv_bipush (v := (29:Int32)) hx hb dX6_pillar_43 (by decide) ?_
        refine lv_iload_n hx hb dX6_pillar_45 rfl (lv_at hl 3 rfl) ?_
        refine lv_iadd hx hb dX6_pillar_46 ?_
        refine lv_iconst (v := (1:Int32)) hx hb dX6_pillar_47 (by decide) ?_
        obtain ⟨h9, hf⟩ := gi_some hf
        obtain ⟨u10, eu10, hf⟩ := lt_some hf
        refine g_iast (gs' := [mdW G a0 u10]) hx hb hK hP hD hS 0 1 0 rfl rfl rfl h9 dX6_pillar_48 (by rw [eu10]; rfl) (fun H locs hP hD hS => ?_)
        refine lv_aload_n hx hb dX6_pillar_49 rfl (lv_at hl 0 rfl) ?_
        obtain ⟨q11, hq11, hf⟩ := bd_some hf
        refine g_callVi S (As := []) (gs' := [mdW G a0 q11.2]) (c_X6_goMonth l G a0 u10 hq11) (cwV 0 hts gX6_pillar_X6_goMonth rfl rfl rfl hd_X6_goMonth ⟨Nat.le_of_ble_eq_true rfl, Nat.le_of_ble_eq_true rfl⟩) hK hP hD hS hA (is := [0]) rfl rfl 0 rfl rfl rfl rfl hl.1 rfl (Nat.le_of_ble_eq_true rfl) dX6_pillar_50 ⟨Nat.le_of_ble_eq_true rfl, Nat.le_of_ble_eq_true rfl⟩ rfl (fun H locs hP hD hS => ?_)
        refine lv_pop hx hb dX6_pillar_53 rfl ?_
        refine lv_aload_n hx hb dX6_pillar_54 rfl (lv_at hl 0 rfl) ?_
        obtain ⟨q12, hq12, hf⟩ := bd_some hf
        refine g_callVv S (As := []) (gs' := [mdW G a0 q12.2]) (c_X6_bringBack l G a0 q11.2 hq12) (cwV 0 hts gX6_pillar_X6_bringBack rfl rfl rfl hd_X6_bringBack ⟨Nat.le_of_ble_eq_true rfl, Nat.le_of_ble_eq_true rfl⟩) hK hP hD hS hA (is := [0]) rfl rfl 0 rfl rfl rfl rfl hl.1 rfl (Nat.le_of_ble_eq_true rfl) dX6_pillar_55 ⟨Nat.le_of_ble_eq_true rfl, Nat.le_of_ble_eq_true rfl⟩ rfl (fun H locs hP hD hS => ?_)
        refine lv_iload_n hx hb dX6_pillar_58 rfl (lv_at hl 1 rfl) ?_
        refine lv_ldc (v := (-99999:Int32)) hx hb hown (hts _ kX6_pillar_1) dX6_pillar_59 ?_
        refine lv_icmp_eq (tgt := 72) hx hb dX6_pillar_61 (by decide) (fun c13 => ?_) (fun c13 => ?_)
        · rw [if_pos c13] at hf
          refine lv_iload_n hx hb dX6_pillar_72 rfl (lv_at hl 3 rfl) ?_
          refine lv_istore_n (lv' := [(1, .int z.2.2.1), (0, .ref (a0 0)), (2, .int z.2.1), (3, .int z.2.2.1)]) hx hb dX6_pillar_73 rfl hl (by decide) rfl (fun ls hl => ?_)
          refine lv_aload_n hx hb dX6_pillar_74 rfl (lv_at hl 1 rfl) ?_
          refine g_get (C := RX6) (T := TX6) (N := 15) hx hb hts iwX6_pillar_X6 hown hK hP 0 0 rfl rfl rfl 11 (Nat.le_of_ble_eq_true rfl) (hts _ kX6_pillar_3) (fun _ h9 => h9) rfl dX6_pillar_75 ?_
          obtain ⟨x14, ex14, hf⟩ := lt_some hf
          refine lv_nmi ex14 ?_
          refine lv_istore_n (lv' := [(2, .int x14), (1, .int z.2.2.1), (0, .ref (a0 0)), (3, .int z.2.2.1)]) hx hb dX6_pillar_78 rfl hl (by decide) rfl (fun ls hl => ?_)
          obtain ⟨x15, ex15, hf⟩ := lt_some hf
          refine lv_iinc (v := x15) (lv' := [(3, .int x15), (2, .int x14), (1, .int z.2.2.1), (0, .ref (a0 0))]) hx hb dX6_pillar_79 hl (k := 3) rfl (by rw [ex15]; rfl) (by decide) rfl (fun ls hl => ?_)
          refine lv_goto (tgt := 16) hx hb dX6_pillar_82 (by decide) ?_
          exact ih _ e1 (lz_l hf hz) H locs ls hP hD hS (lv_sub hl [3, 2, 1, 0] rfl) K
        · rw [if_neg c13] at hf
          refine lv_aload_n hx hb dX6_pillar_64 rfl (lv_at hl 0 rfl) ?_
          refine g_get (C := RX6) (T := TX6) (N := 15) hx hb hts iwX6_pillar_X6 hown hK hP 0 0 rfl rfl rfl 11 (Nat.le_of_ble_eq_true rfl) (hts _ kX6_pillar_3) (fun _ h9 => h9) rfl dX6_pillar_65 ?_
          refine lv_iload_n hx hb dX6_pillar_68 rfl (lv_at hl 2 rfl) ?_
          refine lv_icmp_ge (tgt := 79) hx hb dX6_pillar_69 (by decide) (fun c16 => ?_) (fun c16 => ?_)
          · rw [if_pos c16] at hf
            obtain ⟨x17, ex17, hf⟩ := lt_some hf
            refine lv_iinc (v := x17) (lv' := [(3, .int x17), (0, .ref (a0 0)), (1, .int z.1), (2, .int z.2.1)]) hx hb dX6_pillar_79 hl (k := 3) rfl (by rw [ex17]; rfl) (by decide) rfl (fun ls hl => ?_)
            refine lv_goto (tgt := 16) hx hb dX6_pillar_82 (by decide) ?_
            exact ih _ e1 (lz_l hf hz) H locs ls hP hD hS (lv_sub hl [1, 2, 3, 0] rfl) K
          · rw [if_neg c16] at hf
            refine lv_iload_n hx hb dX6_pillar_72 rfl (lv_at hl 3 rfl) ?_
            refine lv_istore_n (lv' := [(1, .int z.2.2.1), (0, .ref (a0 0)), (2, .int z.2.1), (3, .int z.2.2.1)]) hx hb dX6_pillar_73 rfl hl (by decide) rfl (fun ls hl => ?_)
            refine lv_aload_n hx hb dX6_pillar_74 rfl (lv_at hl 1 rfl) ?_
            refine g_get (C := RX6) (T := TX6) (N := 15) hx hb hts iwX6_pillar_X6 hown hK hP 0 0 rfl rfl rfl 11 (Nat.le_of_ble_eq_true rfl) (hts _ kX6_pillar_3) (fun _ h9 => h9) rfl dX6_pillar_75 ?_
            obtain ⟨x18, ex18, hf⟩ := lt_some hf
            refine lv_nmi ex18 ?_
            refine lv_istore_n (lv' := [(2, .int x18), (1, .int z.2.2.1), (0, .ref (a0 0)), (3, .int z.2.2.1)]) hx hb dX6_pillar_78 rfl hl (by decide) rfl (fun ls hl => ?_)
            obtain ⟨x19, ex19, hf⟩ := lt_some hf
            refine lv_iinc (v := x19) (lv' := [(3, .int x19), (2, .int x18), (1, .int z.2.2.1), (0, .ref (a0 0))]) hx hb dX6_pillar_79 hl (k := 3) rfl (by rw [ex19]; rfl) (by decide) rfl (fun ls hl => ?_)
            refine lv_goto (tgt := 16) hx hb dX6_pillar_82 (by decide) ?_
            exact ih _ e1 (lz_l hf hz) H locs ls hP hD hS (lv_sub hl [3, 2, 1, 0] rfl) K
set_option maxHeartbeats 4000000 in
set_option maxRecDepth 100000 in
theorem c_X6_pillar (l : Launch) (G : uG) (a0 : Nat → Nat) (v0 : MdV) {q : Int32 × (MdV)} (hf : f_X6_pillar v0 = some q) : mQ l yX6_pillar wsX6_pillar ({ frames := 3, cells := 0, slots := 0, locals := 70 } : Room) G [.ref (a0 0)] [mdW G a0 v0] [mdW G a0 q.2] (qI G [mdW G a0 q.2] q.1) := by
  unfold f_X6_pillar at hf
  refine m_of (cc := cX6_pillar) (maxL := 4) (ret := (some .int)) (by decide) rfl rfl (Nat.le_of_ble_eq_true rfl) ?_
  intro p e s m args below meth c A ls S hK hA hP hD hS hl
  obtain ⟨hx, hb, hml, hown, hts, hr, hlocks⟩ := id S
  have hl : lv_has ls 4 [(0, .ref (a0 0))] := hl
  refine lv_aload_n hx hb dX6_pillar_0 rfl (lv_at hl 0 rfl) ?_
  refine lv_iconst (v := (0:Int32)) hx hb dX6_pillar_1 (by decide) ?_
  obtain ⟨u1, eu1, hf⟩ := lt_some hf
  refine g_put (ty := .int) (C := RX6) (T := TX6) (N := 15) (gs' := [mdW G a0 u1]) hx hb hts iwX6_pillar_X6 tyX6 tyX6_ok nmX6 hown hK hP hD hS 0 0 rfl rfl rfl 0 (Nat.le_of_ble_eq_true rfl) (hts _ kX6_pillar_0) (fun _ h9 => h9) rfl (by decide +kernel) rfl rfl (Nat.le_of_ble_eq_true rfl) dX6_pillar_2 (by rw [eu1]; rfl) (fun H locs hP hD hS => ?_)
  refine lv_ldc (v := (-99999:Int32)) hx hb hown (hts _ kX6_pillar_1) dX6_pillar_5 ?_
  refine lv_istore_n (lv' := [(1, .int (-99999:Int32)), (0, .ref (a0 0))]) hx hb dX6_pillar_7 rfl hl (by decide) rfl (fun ls hl => ?_)
  refine lv_iconst (v := (0:Int32)) hx hb dX6_pillar_8 (by decide) ?_
  refine lv_istore_n (lv' := [(2, .int (0:Int32)), (1, .int (-99999:Int32)), (0, .ref (a0 0))]) hx hb dX6_pillar_9 rfl hl (by decide) rfl (fun ls hl => ?_)
  refine lv_aload_n hx hb dX6_pillar_10 rfl (lv_at hl 2 rfl) ?_
  obtain ⟨q2, hq2, hf⟩ := bd_some hf
  refine g_callVv S (As := []) (gs' := [mdW G a0 q2.2]) (c_X6_putAside l G a0 u1 hq2) (cwV 0 hts gX6_pillar_X6_putAside rfl rfl rfl hd_X6_putAside ⟨Nat.le_of_ble_eq_true rfl, Nat.le_of_ble_eq_true rfl⟩) hK hP hD hS hA (is := [0]) rfl rfl 0 rfl rfl rfl rfl hl.1 rfl (Nat.le_of_ble_eq_true rfl) dX6_pillar_11 ⟨Nat.le_of_ble_eq_true rfl, Nat.le_of_ble_eq_true rfl⟩ rfl (fun H locs hP hD hS => ?_)
  refine lv_iconst (v := (0:Int32)) hx hb dX6_pillar_14 (by decide) ?_
  refine lv_istore_n (lv' := [(3, .int (0:Int32)), (2, .int (0:Int32)), (1, .int (-99999:Int32)), (0, .ref (a0 0))]) hx hb dX6_pillar_15 rfl hl (by decide) rfl (fun ls hl => ?_)
  obtain ⟨e20, he20, hf⟩ := bd_some hf
  refine w_X6_pillar_16 (Q := _) S hK hA G a0 FU _ e20 he20 _ _ _ hP hD hS (lv_sub hl [3, 2, 1, 0] rfl) (fun H locs ls hP hD hS hl => ?_)
  refine lv_iload_n hx hb dX6_pillar_85 rfl (lv_at hl 1 rfl) ?_
  cases hf
  exact g_iret hx hb hr hlocks hP hS dX6_pillar_86
theorem kX6_when_0 : Cond.fieldLink RX6 38 "SavingsCircleModel" "thrown" "I" ∈ wsX6_when := (List.mem_cons_of_mem _ (List.mem_append_left _ (List.mem_append_left _ (List.mem_of_getElem? (i := 0) rfl))))
theorem kX6_when_1 : Cond.constant RX6 49 (-99999) ∈ wsX6_when := (List.mem_cons_of_mem _ (List.mem_append_left _ (List.mem_append_left _ (List.mem_of_getElem? (i := 1) rfl))))
theorem kX6_when_2 : Cond.fieldLink RX6 7 "SavingsCircleModel" "z" "[I" ∈ wsX6_when := (List.mem_cons_of_mem _ (List.mem_append_left _ (List.mem_append_left _ (List.mem_of_getElem? (i := 2) rfl))))
theorem iwX6_when_X6 : ∀ w ∈ wsX60, w ∈ wsX6_when := fun w h => (List.mem_cons_of_mem _ (List.mem_append_right _ h))
set_option maxHeartbeats 4000000 in
set_option maxRecDepth 100000 in
theorem w_X6_when_35 {p : Program} {l : Launch} {e : Env} {s : State} {m : MethodId} {args : Array Value} {below : List Frame} {meth : Method} {c : Code} {A : Nat → Prop} {Q : State → Prop} (S : Ev p s m args meth c cX6_when 5 (some .int) yX6_when.cls wsX6_when) {G : uG} (hK : kK G s) (hA : ∀ q, s.heap.size ≤ q → A q) (_ : uG) (a0 : Nat → Nat) (p1 : Int32) : ∀ (n : Nat) (z : (Int32 × Int32 × MdV)) (e1 : (Int32 × Int32 × MdV)), lp (b_X6_when_35 p1) n z = some e1 → ∀ (H : Heap) (locs : List Loc) (ls : Array Slot), gP G [mdW G a0 z.2.2] H → gD A [mdW G a0 z.2.2] → va_S A s.heap H locs → lv_has ls 5 [(0, .ref (a0 0)), (1, .int p1), (2, .int z.1), (3, .int z.2.1)] → (∀ (H : Heap) (locs : List Loc) (ls : Array Slot), gP G [mdW G a0 e1.2.2] H → gD A [mdW G a0 e1.2.2] → va_S A s.heap H locs → lv_has ls 5 [(0, .ref (a0 0)), (1, .int p1), (2, .int e1.1), (3, .int e1.2.1)] → W p l e ({ frames := 3, cells := 0, slots := 0, locals := 70 } : Room) s m args below meth c H locs 0 0 Q (F0 m 84 ls [])) → W p l e ({ frames := 3, cells := 0, slots := 0, locals := 70 } : Room) s m args below meth c H locs 0 0 Q (F0 m 35 ls []) := by
  obtain ⟨hx, hb, hml, hown, hts, hr, hlocks⟩ := id S
  intro n
  induction n with
  | zero => intro z e1 h; cases h
  | succ n ih =>
    intro z e1 hlp H locs ls hP hD hS hl K
    obtain ⟨z9, hf, hz⟩ := lp_s hlp
    unfold b_X6_when_35 at hf
    refine lv_iload_n hx hb dX6_when_35 rfl (lv_at hl 3 rfl) ?_
    refine lv_bipush (v := (20:Int32)) hx hb dX6_when_36 (by decide) ?_
    refine lv_icmp_ge (tgt := 84) hx hb dX6_when_38 (by decide) (fun c6 => ?_) (fun c6 => ?_)
    · rw [if_pos c6] at hf
      have he := lz_r hf hz
      subst he
      exact K H locs ls hP hD hS (lv_sub hl [0, 1, 2, 3] rfl)
    · rw [if_neg c6] at hf
      refine lv_aload_n hx hb dX6_when_41 rfl (lv_at hl 0 rfl) ?_
      obtain ⟨q7, hq7, hf⟩ := bd_some hf
      refine g_callVi S (As := []) (gs' := [mdW G a0 z.2.2]) (c_X6_canGo l G a0 z.2.2 hq7) (cwV 0 hts gX6_when_X6_canGo rfl rfl rfl hd_X6_canGo ⟨Nat.le_of_ble_eq_true rfl, Nat.le_of_ble_eq_true rfl⟩) hK hP hD hS hA (is := [0]) rfl rfl 0 rfl rfl rfl rfl hl.1 rfl (Nat.le_of_ble_eq_true rfl) dX6_when_42 ⟨Nat.le_of_ble_eq_true rfl, Nat.le_of_ble_eq_true rfl⟩ rfl (fun H locs hP hD hS => ?_)
      refine lv_if_eq (tgt := 84) hx hb dX6_when_45 (by decide) (fun c8 => ?_) (fun c8 => ?_)
      · rw [if_pos c8] at hf
        have he := lz_r hf hz
        subst he
        exact K H locs ls hP hD hS (lv_sub hl [0, 1, 2, 3] rfl)
      · rw [if_neg c8] at hf
        refine lv_iload_n hx hb dX6_when_48 rfl (lv_at hl 2 rfl) ?_
        refine lv_ldc (v := (-99999:Int32)) hx hb hown (hts _ kX6_when_1) dX6_when_49 ?_
        refine lv_icmp_ne (tgt := 84) hx hb dX6_when_51 (by decide) (fun c9 => ?_) (fun c9 => ?_)
        · rw [if_neg c9] at hf
          have he := lz_r hf hz
          subst he
          exact K H locs ls hP hD hS (lv_sub hl [0, 1, 2, 3] rfl)
        · rw [if_pos c9] at hf
          refine lv_aload_n hx hb dX6_when_54 rfl (lv_at hl 0 rfl) ?_
          refine g_get (C := RX6) (T := TX6) (N := 15) hx hb hts iwX6_when_X6 hown hK hP 0 0 rfl rfl rfl 1 (Nat.le_of_ble_eq_true rfl) (hts _ kX6_when_2) (fun _ h9 => h9) rfl dX6_when_55 ?_
          refine lv_iconst (v := (2:Int32)) hx hb dX6_when_58 (by decide) ?_
          obtain ⟨h10, hf⟩ := gi_some hf
          refine g_iald hx hb hK hP 0 1 0 rfl rfl rfl h10 dX6_when_59 ?_
          obtain ⟨x11, ex11, hf⟩ := lt_some hf
          refine lv_nmi ex11 ?_
          refine lv_istore (lv' := [(4, .int x11), (0, .ref (a0 0)), (1, .int p1), (2, .int z.1), (3, .int z.2.1)]) hx hb dX6_when_60 hl (by decide) rfl (fun ls hl => ?_)
          refine lv_aload_n hx hb dX6_when_62 rfl (lv_at hl 1 rfl) ?_
          obtain ⟨q12, hq12, hf⟩ := bd_some hf
          refine g_callVi S (As := []) (gs' := [mdW G a0 q12.2]) (c_X6_goMonth l G a0 z.2.2 hq12) (cwV 0 hts gX6_when_X6_goMonth rfl rfl rfl hd_X6_goMonth ⟨Nat.le_of_ble_eq_true rfl, Nat.le_of_ble_eq_true rfl⟩) hK hP hD hS hA (is := [0]) rfl rfl 0 rfl rfl rfl rfl hl.1 rfl (Nat.le_of_ble_eq_true rfl) dX6_when_63 ⟨Nat.le_of_ble_eq_true rfl, Nat.le_of_ble_eq_true rfl⟩ rfl (fun H locs hP hD hS => ?_)
          refine lv_iload_n hx hb dX6_when_66 rfl (lv_at hl 2 rfl) ?_
          refine lv_icmp_ne (tgt := 75) hx hb dX6_when_67 (by decide) (fun c13 => ?_) (fun c13 => ?_)
          · rw [if_neg c13] at hf
            refine lv_ldc (v := (-99999:Int32)) hx hb hown (hts _ kX6_when_1) dX6_when_75 ?_
            refine lv_istore_n (lv' := [(2, .int (-99999:Int32)), (4, .int x11), (0, .ref (a0 0)), (1, .int p1), (3, .int z.2.1)]) hx hb dX6_when_77 rfl hl (by decide) rfl (fun ls hl => ?_)
            obtain ⟨x14, ex14, hf⟩ := lt_some hf
            refine lv_iinc (v := x14) (lv' := [(3, .int x14), (2, .int (-99999:Int32)), (4, .int x11), (0, .ref (a0 0)), (1, .int p1)]) hx hb dX6_when_78 hl (k := 4) rfl (by rw [ex14]; rfl) (by decide) rfl (fun ls hl => ?_)
            refine lv_goto (tgt := 35) hx hb dX6_when_81 (by decide) ?_
            exact ih _ e1 (lz_l hf hz) H locs ls hP hD hS (lv_sub hl [3, 4, 1, 0] rfl) K
          · rw [if_pos c13] at hf
            refine lv_iload hx hb dX6_when_70 (lv_at hl 0 rfl) ?_
            refine lv_goto (tgt := 77) hx hb dX6_when_72 (by decide) ?_
            refine lv_istore_n (lv' := [(2, .int x11), (4, .int x11), (0, .ref (a0 0)), (1, .int p1), (3, .int z.2.1)]) hx hb dX6_when_77 rfl hl (by decide) rfl (fun ls hl => ?_)
            obtain ⟨x15, ex15, hf⟩ := lt_some hf
            refine lv_iinc (v := x15) (lv' := [(3, .int x15), (2, .int x11), (4, .int x11), (0, .ref (a0 0)), (1, .int p1)]) hx hb dX6_when_78 hl (k := 4) rfl (by rw [ex15]; rfl) (by decide) rfl (fun ls hl => ?_)
            refine lv_goto (tgt := 35) hx hb dX6_when_81 (by decide) ?_
            exact ih _ e1 (lz_l hf hz) H locs ls hP hD hS (lv_sub hl [3, 4, 1, 0] rfl) K
set_option maxHeartbeats 4000000 in
set_option maxRecDepth 100000 in
theorem c_X6_when (l : Launch) (G : uG) (a0 : Nat → Nat) (v0 : MdV) (i1 : Int32) {q : Int32 × (MdV)} (hf : f_X6_when v0 i1 = some q) : mQ l yX6_when wsX6_when ({ frames := 3, cells := 0, slots := 0, locals := 70 } : Room) G [.ref (a0 0), .int i1] [mdW G a0 v0] [mdW G a0 q.2] (qI G [mdW G a0 q.2] q.1) := by
  unfold f_X6_when at hf
  refine m_of (cc := cX6_when) (maxL := 5) (ret := (some .int)) (by decide) rfl rfl (Nat.le_of_ble_eq_true rfl) ?_
  intro p e s m args below meth c A ls S hK hA hP hD hS hl
  obtain ⟨hx, hb, hml, hown, hts, hr, hlocks⟩ := id S
  have hl : lv_has ls 5 [(0, .ref (a0 0)), (1, .int i1)] := hl
  refine lv_aload_n hx hb dX6_when_0 rfl (lv_at hl 0 rfl) ?_
  refine lv_aload_n hx hb dX6_when_1 rfl (lv_at hl 0 rfl) ?_
  refine lv_iload_n hx hb dX6_when_2 rfl (lv_at hl 1 rfl) ?_
  obtain ⟨q1, hq1, hf⟩ := bd_some hf
  refine g_callVi S (As := [.int i1]) (gs' := [mdW G a0 v0]) (c_X6_isMember l G a0 v0 i1 hq1) (cwV 1 hts gX6_when_X6_isMember rfl rfl rfl hd_X6_isMember ⟨Nat.le_of_ble_eq_true rfl, Nat.le_of_ble_eq_true rfl⟩) hK hP hD hS hA (is := [0]) rfl rfl 0 rfl rfl rfl rfl hl.1 rfl (Nat.le_of_ble_eq_true rfl) dX6_when_3 ⟨Nat.le_of_ble_eq_true rfl, Nat.le_of_ble_eq_true rfl⟩ rfl (fun H locs hP hD hS => ?_)
  refine lv_if_eq (tgt := 13) hx hb dX6_when_6 (by decide) (fun c2 => ?_) (fun c2 => ?_)
  · rw [if_pos c2] at hf
    refine lv_iconst (v := (1:Int32)) hx hb dX6_when_13 (by decide) ?_
    obtain ⟨u3, eu3, hf⟩ := lt_some hf
    refine g_put (ty := .int) (C := RX6) (T := TX6) (N := 15) (gs' := [mdW G a0 u3]) hx hb hts iwX6_when_X6 tyX6 tyX6_ok nmX6 hown hK hP hD hS 0 0 rfl rfl rfl 0 (Nat.le_of_ble_eq_true rfl) (hts _ kX6_when_0) (fun _ h9 => h9) rfl (by decide +kernel) rfl rfl (Nat.le_of_ble_eq_true rfl) dX6_when_14 (by rw [eu3]; rfl) (fun H locs hP hD hS => ?_)
    refine lv_aload_n hx hb dX6_when_17 rfl (lv_at hl 0 rfl) ?_
    refine g_get (C := RX6) (T := TX6) (N := 15) hx hb hts iwX6_when_X6 hown hK hP 0 0 rfl rfl rfl 0 (Nat.le_of_ble_eq_true rfl) (hts _ kX6_when_0) (fun _ h9 => h9) rfl dX6_when_18 ?_
    refine lv_if_le (tgt := 26) hx hb dX6_when_21 (by decide) (fun c4 => ?_) (fun c4 => ?_)
    · rw [if_pos c4] at hf
      refine lv_aload_n hx hb dX6_when_26 rfl (lv_at hl 0 rfl) ?_
      obtain ⟨q5, hq5, hf⟩ := bd_some hf
      refine g_callVv S (As := []) (gs' := [mdW G a0 q5.2]) (c_X6_putAside l G a0 u3 hq5) (cwV 0 hts gX6_when_X6_putAside rfl rfl rfl hd_X6_putAside ⟨Nat.le_of_ble_eq_true rfl, Nat.le_of_ble_eq_true rfl⟩) hK hP hD hS hA (is := [0]) rfl rfl 0 rfl rfl rfl rfl hl.1 rfl (Nat.le_of_ble_eq_true rfl) dX6_when_27 ⟨Nat.le_of_ble_eq_true rfl, Nat.le_of_ble_eq_true rfl⟩ rfl (fun H locs hP hD hS => ?_)
      refine lv_ldc (v := (-99999:Int32)) hx hb hown (hts _ kX6_when_1) dX6_when_30 ?_
      refine lv_istore_n (lv' := [(2, .int (-99999:Int32)), (0, .ref (a0 0)), (1, .int i1)]) hx hb dX6_when_32 rfl hl (by decide) rfl (fun ls hl => ?_)
      refine lv_iconst (v := (0:Int32)) hx hb dX6_when_33 (by decide) ?_
      refine lv_istore_n (lv' := [(3, .int (0:Int32)), (2, .int (-99999:Int32)), (0, .ref (a0 0)), (1, .int i1)]) hx hb dX6_when_34 rfl hl (by decide) rfl (fun ls hl => ?_)
      obtain ⟨e16, he16, hf⟩ := bd_some hf
      refine w_X6_when_35 (Q := _) S hK hA G a0 i1 FU _ e16 he16 _ _ _ hP hD hS (lv_sub hl [2, 3, 1, 0] rfl) (fun H locs ls hP hD hS hl => ?_)
      refine lv_aload_n hx hb dX6_when_84 rfl (lv_at hl 0 rfl) ?_
      obtain ⟨q17, hq17, hf⟩ := bd_some hf
      refine g_callVv S (As := []) (gs' := [mdW G a0 q17.2]) (c_X6_bringBack l G a0 e16.2.2 hq17) (cwV 0 hts gX6_when_X6_bringBack rfl rfl rfl hd_X6_bringBack ⟨Nat.le_of_ble_eq_true rfl, Nat.le_of_ble_eq_true rfl⟩) hK hP hD hS hA (is := [0]) rfl rfl 0 rfl rfl rfl rfl hl.1 rfl (Nat.le_of_ble_eq_true rfl) dX6_when_85 ⟨Nat.le_of_ble_eq_true rfl, Nat.le_of_ble_eq_true rfl⟩ rfl (fun H locs hP hD hS => ?_)
      refine lv_iload_n hx hb dX6_when_88 rfl (lv_at hl 2 rfl) ?_
      cases hf
      exact g_iret hx hb hr hlocks hP hS dX6_when_89
    · rw [if_neg c4] at hf
      refine lv_iconst (v := (0:Int32)) hx hb dX6_when_24 (by decide) ?_
      cases hf
      exact g_iret hx hb hr hlocks hP hS dX6_when_25
  · rw [if_neg c2] at hf
    refine lv_iconst (v := (0:Int32)) hx hb dX6_when_9 (by decide) ?_
    refine lv_goto (tgt := 14) hx hb dX6_when_10 (by decide) ?_
    obtain ⟨u18, eu18, hf⟩ := lt_some hf
    refine g_put (ty := .int) (C := RX6) (T := TX6) (N := 15) (gs' := [mdW G a0 u18]) hx hb hts iwX6_when_X6 tyX6 tyX6_ok nmX6 hown hK hP hD hS 0 0 rfl rfl rfl 0 (Nat.le_of_ble_eq_true rfl) (hts _ kX6_when_0) (fun _ h9 => h9) rfl (by decide +kernel) rfl rfl (Nat.le_of_ble_eq_true rfl) dX6_when_14 (by rw [eu18]; rfl) (fun H locs hP hD hS => ?_)
    refine lv_aload_n hx hb dX6_when_17 rfl (lv_at hl 0 rfl) ?_
    refine g_get (C := RX6) (T := TX6) (N := 15) hx hb hts iwX6_when_X6 hown hK hP 0 0 rfl rfl rfl 0 (Nat.le_of_ble_eq_true rfl) (hts _ kX6_when_0) (fun _ h9 => h9) rfl dX6_when_18 ?_
    refine lv_if_le (tgt := 26) hx hb dX6_when_21 (by decide) (fun c19 => ?_) (fun c19 => ?_)
    · rw [if_pos c19] at hf
      refine lv_aload_n hx hb dX6_when_26 rfl (lv_at hl 0 rfl) ?_
      obtain ⟨q20, hq20, hf⟩ := bd_some hf
      refine g_callVv S (As := []) (gs' := [mdW G a0 q20.2]) (c_X6_putAside l G a0 u18 hq20) (cwV 0 hts gX6_when_X6_putAside rfl rfl rfl hd_X6_putAside ⟨Nat.le_of_ble_eq_true rfl, Nat.le_of_ble_eq_true rfl⟩) hK hP hD hS hA (is := [0]) rfl rfl 0 rfl rfl rfl rfl hl.1 rfl (Nat.le_of_ble_eq_true rfl) dX6_when_27 ⟨Nat.le_of_ble_eq_true rfl, Nat.le_of_ble_eq_true rfl⟩ rfl (fun H locs hP hD hS => ?_)
      refine lv_ldc (v := (-99999:Int32)) hx hb hown (hts _ kX6_when_1) dX6_when_30 ?_
      refine lv_istore_n (lv' := [(2, .int (-99999:Int32)), (0, .ref (a0 0)), (1, .int i1)]) hx hb dX6_when_32 rfl hl (by decide) rfl (fun ls hl => ?_)
      refine lv_iconst (v := (0:Int32)) hx hb dX6_when_33 (by decide) ?_
      refine lv_istore_n (lv' := [(3, .int (0:Int32)), (2, .int (-99999:Int32)), (0, .ref (a0 0)), (1, .int i1)]) hx hb dX6_when_34 rfl hl (by decide) rfl (fun ls hl => ?_)
      obtain ⟨e21, he21, hf⟩ := bd_some hf
      refine w_X6_when_35 (Q := _) S hK hA G a0 i1 FU _ e21 he21 _ _ _ hP hD hS (lv_sub hl [2, 3, 1, 0] rfl) (fun H locs ls hP hD hS hl => ?_)
      refine lv_aload_n hx hb dX6_when_84 rfl (lv_at hl 0 rfl) ?_
      obtain ⟨q22, hq22, hf⟩ := bd_some hf
      refine g_callVv S (As := []) (gs' := [mdW G a0 q22.2]) (c_X6_bringBack l G a0 e21.2.2 hq22) (cwV 0 hts gX6_when_X6_bringBack rfl rfl rfl hd_X6_bringBack ⟨Nat.le_of_ble_eq_true rfl, Nat.le_of_ble_eq_true rfl⟩) hK hP hD hS hA (is := [0]) rfl rfl 0 rfl rfl rfl rfl hl.1 rfl (Nat.le_of_ble_eq_true rfl) dX6_when_85 ⟨Nat.le_of_ble_eq_true rfl, Nat.le_of_ble_eq_true rfl⟩ rfl (fun H locs hP hD hS => ?_)
      refine lv_iload_n hx hb dX6_when_88 rfl (lv_at hl 2 rfl) ?_
      cases hf
      exact g_iret hx hb hr hlocks hP hS dX6_when_89
    · rw [if_neg c19] at hf
      refine lv_iconst (v := (0:Int32)) hx hb dX6_when_24 (by decide) ?_
      cases hf
      exact g_iret hx hb hr hlocks hP hS dX6_when_25
theorem kX6_inTheEnd_0 : Cond.fieldLink RX6 38 "SavingsCircleModel" "thrown" "I" ∈ wsX6_inTheEnd := (List.mem_cons_of_mem _ (List.mem_append_left _ (List.mem_append_left _ (List.mem_of_getElem? (i := 0) rfl))))
theorem kX6_inTheEnd_1 : Cond.fieldLink RX6 7 "SavingsCircleModel" "z" "[I" ∈ wsX6_inTheEnd := (List.mem_cons_of_mem _ (List.mem_append_left _ (List.mem_append_left _ (List.mem_of_getElem? (i := 1) rfl))))
theorem iwX6_inTheEnd_X6 : ∀ w ∈ wsX60, w ∈ wsX6_inTheEnd := fun w h => (List.mem_cons_of_mem _ (List.mem_append_right _ h))
set_option maxHeartbeats 4000000 in
set_option maxRecDepth 100000 in
theorem w_X6_inTheEnd_32 {p : Program} {l : Launch} {e : Env} {s : State} {m : MethodId} {args : Array Value} {below : List Frame} {meth : Method} {c : Code} {A : Nat → Prop} {Q : State → Prop} (S : Ev p s m args meth c cX6_inTheEnd 3 (some .int) yX6_inTheEnd.cls wsX6_inTheEnd) {G : uG} (hK : kK G s) (hA : ∀ q, s.heap.size ≤ q → A q) (_ : uG) (a0 : Nat → Nat) (p1 : Int32) : ∀ (n : Nat) (z : (Int32 × MdV)) (e1 : (Int32 × MdV)), lp (b_X6_inTheEnd_32 p1) n z = some e1 → ∀ (H : Heap) (locs : List Loc) (ls : Array Slot), gP G [mdW G a0 z.2] H → gD A [mdW G a0 z.2] → va_S A s.heap H locs → lv_has ls 3 [(0, .ref (a0 0)), (1, .int p1), (2, .int z.1)] → (∀ (H : Heap) (locs : List Loc) (ls : Array Slot), gP G [mdW G a0 e1.2] H → gD A [mdW G a0 e1.2] → va_S A s.heap H locs → lv_has ls 3 [(0, .ref (a0 0)), (1, .int p1), (2, .int e1.1)] → W p l e ({ frames := 3, cells := 0, slots := 0, locals := 70 } : Room) s m args below meth c H locs 0 0 Q (F0 m 63 ls [])) → W p l e ({ frames := 3, cells := 0, slots := 0, locals := 70 } : Room) s m args below meth c H locs 0 0 Q (F0 m 32 ls []) := by
  obtain ⟨hx, hb, hml, hown, hts, hr, hlocks⟩ := id S
  intro n
  induction n with
  | zero => intro z e1 h; cases h
  | succ n ih =>
    intro z e1 hlp H locs ls hP hD hS hl K
    obtain ⟨z9, hf, hz⟩ := lp_s hlp
    unfold b_X6_inTheEnd_32 at hf
    refine lv_iload_n hx hb dX6_inTheEnd_32 rfl (lv_at hl 2 rfl) ?_
    refine lv_bipush (v := (20:Int32)) hx hb dX6_inTheEnd_33 (by decide) ?_
    refine lv_icmp_ge (tgt := 63) hx hb dX6_inTheEnd_35 (by decide) (fun c6 => ?_) (fun c6 => ?_)
    · rw [if_pos c6] at hf
      have he := lz_r hf hz
      subst he
      exact K H locs ls hP hD hS (lv_sub hl [0, 1, 2] rfl)
    · rw [if_neg c6] at hf
      refine lv_aload_n hx hb dX6_inTheEnd_38 rfl (lv_at hl 0 rfl) ?_
      obtain ⟨q7, hq7, hf⟩ := bd_some hf
      refine g_callVi S (As := []) (gs' := [mdW G a0 z.2]) (c_X6_canGo l G a0 z.2 hq7) (cwV 0 hts gX6_inTheEnd_X6_canGo rfl rfl rfl hd_X6_canGo ⟨Nat.le_of_ble_eq_true rfl, Nat.le_of_ble_eq_true rfl⟩) hK hP hD hS hA (is := [0]) rfl rfl 0 rfl rfl rfl rfl hl.1 rfl (Nat.le_of_ble_eq_true rfl) dX6_inTheEnd_39 ⟨Nat.le_of_ble_eq_true rfl, Nat.le_of_ble_eq_true rfl⟩ rfl (fun H locs hP hD hS => ?_)
      refine lv_if_eq (tgt := 63) hx hb dX6_inTheEnd_42 (by decide) (fun c8 => ?_) (fun c8 => ?_)
      · rw [if_pos c8] at hf
        have he := lz_r hf hz
        subst he
        exact K H locs ls hP hD hS (lv_sub hl [0, 1, 2] rfl)
      · rw [if_neg c8] at hf
        refine lv_aload_n hx hb dX6_inTheEnd_45 rfl (lv_at hl 0 rfl) ?_
        obtain ⟨q9, hq9, hf⟩ := bd_some hf
        refine g_callVi S (As := []) (gs' := [mdW G a0 z.2]) (c_X6_waiting l G a0 z.2 hq9) (cwV 0 hts gX6_inTheEnd_X6_waiting rfl rfl rfl hd_X6_waiting ⟨Nat.le_of_ble_eq_true rfl, Nat.le_of_ble_eq_true rfl⟩) hK hP hD hS hA (is := [0]) rfl rfl 0 rfl rfl rfl rfl hl.1 rfl (Nat.le_of_ble_eq_true rfl) dX6_inTheEnd_46 ⟨Nat.le_of_ble_eq_true rfl, Nat.le_of_ble_eq_true rfl⟩ rfl (fun H locs hP hD hS => ?_)
        refine lv_if_le (tgt := 63) hx hb dX6_inTheEnd_49 (by decide) (fun c10 => ?_) (fun c10 => ?_)
        · rw [if_pos c10] at hf
          have he := lz_r hf hz
          subst he
          exact K H locs ls hP hD hS (lv_sub hl [0, 1, 2] rfl)
        · rw [if_neg c10] at hf
          refine lv_aload_n hx hb dX6_inTheEnd_52 rfl (lv_at hl 0 rfl) ?_
          obtain ⟨q11, hq11, hf⟩ := bd_some hf
          refine g_callVi S (As := []) (gs' := [mdW G a0 q11.2]) (c_X6_goMonth l G a0 z.2 hq11) (cwV 0 hts gX6_inTheEnd_X6_goMonth rfl rfl rfl hd_X6_goMonth ⟨Nat.le_of_ble_eq_true rfl, Nat.le_of_ble_eq_true rfl⟩) hK hP hD hS hA (is := [0]) rfl rfl 0 rfl rfl rfl rfl hl.1 rfl (Nat.le_of_ble_eq_true rfl) dX6_inTheEnd_53 ⟨Nat.le_of_ble_eq_true rfl, Nat.le_of_ble_eq_true rfl⟩ rfl (fun H locs hP hD hS => ?_)
          refine lv_pop hx hb dX6_inTheEnd_56 rfl ?_
          obtain ⟨x12, ex12, hf⟩ := lt_some hf
          refine lv_iinc (v := x12) (lv' := [(2, .int x12), (0, .ref (a0 0)), (1, .int p1)]) hx hb dX6_inTheEnd_57 hl (k := 2) rfl (by rw [ex12]; rfl) (by decide) rfl (fun ls hl => ?_)
          refine lv_goto (tgt := 32) hx hb dX6_inTheEnd_60 (by decide) ?_
          exact ih _ e1 (lz_l hf hz) H locs ls hP hD hS (lv_sub hl [1, 2, 0] rfl) K
set_option maxHeartbeats 4000000 in
set_option maxRecDepth 100000 in
theorem c_X6_inTheEnd (l : Launch) (G : uG) (a0 : Nat → Nat) (v0 : MdV) (i1 : Int32) {q : Int32 × (MdV)} (hf : f_X6_inTheEnd v0 i1 = some q) : mQ l yX6_inTheEnd wsX6_inTheEnd ({ frames := 3, cells := 0, slots := 0, locals := 70 } : Room) G [.ref (a0 0), .int i1] [mdW G a0 v0] [mdW G a0 q.2] (qI G [mdW G a0 q.2] q.1) := by
  unfold f_X6_inTheEnd at hf
  refine m_of (cc := cX6_inTheEnd) (maxL := 3) (ret := (some .int)) (by decide) rfl rfl (Nat.le_of_ble_eq_true rfl) ?_
  intro p e s m args below meth c A ls S hK hA hP hD hS hl
  obtain ⟨hx, hb, hml, hown, hts, hr, hlocks⟩ := id S
  have hl : lv_has ls 3 [(0, .ref (a0 0)), (1, .int i1)] := hl
  refine lv_aload_n hx hb dX6_inTheEnd_0 rfl (lv_at hl 0 rfl) ?_
  refine lv_aload_n hx hb dX6_inTheEnd_1 rfl (lv_at hl 0 rfl) ?_
  refine lv_iload_n hx hb dX6_inTheEnd_2 rfl (lv_at hl 1 rfl) ?_
  obtain ⟨q1, hq1, hf⟩ := bd_some hf
  refine g_callVi S (As := [.int i1]) (gs' := [mdW G a0 v0]) (c_X6_isMember l G a0 v0 i1 hq1) (cwV 1 hts gX6_inTheEnd_X6_isMember rfl rfl rfl hd_X6_isMember ⟨Nat.le_of_ble_eq_true rfl, Nat.le_of_ble_eq_true rfl⟩) hK hP hD hS hA (is := [0]) rfl rfl 0 rfl rfl rfl rfl hl.1 rfl (Nat.le_of_ble_eq_true rfl) dX6_inTheEnd_3 ⟨Nat.le_of_ble_eq_true rfl, Nat.le_of_ble_eq_true rfl⟩ rfl (fun H locs hP hD hS => ?_)
  refine lv_if_eq (tgt := 13) hx hb dX6_inTheEnd_6 (by decide) (fun c2 => ?_) (fun c2 => ?_)
  · rw [if_pos c2] at hf
    refine lv_iconst (v := (1:Int32)) hx hb dX6_inTheEnd_13 (by decide) ?_
    obtain ⟨u3, eu3, hf⟩ := lt_some hf
    refine g_put (ty := .int) (C := RX6) (T := TX6) (N := 15) (gs' := [mdW G a0 u3]) hx hb hts iwX6_inTheEnd_X6 tyX6 tyX6_ok nmX6 hown hK hP hD hS 0 0 rfl rfl rfl 0 (Nat.le_of_ble_eq_true rfl) (hts _ kX6_inTheEnd_0) (fun _ h9 => h9) rfl (by decide +kernel) rfl rfl (Nat.le_of_ble_eq_true rfl) dX6_inTheEnd_14 (by rw [eu3]; rfl) (fun H locs hP hD hS => ?_)
    refine lv_aload_n hx hb dX6_inTheEnd_17 rfl (lv_at hl 0 rfl) ?_
    refine g_get (C := RX6) (T := TX6) (N := 15) hx hb hts iwX6_inTheEnd_X6 hown hK hP 0 0 rfl rfl rfl 0 (Nat.le_of_ble_eq_true rfl) (hts _ kX6_inTheEnd_0) (fun _ h9 => h9) rfl dX6_inTheEnd_18 ?_
    refine lv_if_le (tgt := 26) hx hb dX6_inTheEnd_21 (by decide) (fun c4 => ?_) (fun c4 => ?_)
    · rw [if_pos c4] at hf
      refine lv_aload_n hx hb dX6_inTheEnd_26 rfl (lv_at hl 0 rfl) ?_
      obtain ⟨q5, hq5, hf⟩ := bd_some hf
      refine g_callVv S (As := []) (gs' := [mdW G a0 q5.2]) (c_X6_putAside l G a0 u3 hq5) (cwV 0 hts gX6_inTheEnd_X6_putAside rfl rfl rfl hd_X6_putAside ⟨Nat.le_of_ble_eq_true rfl, Nat.le_of_ble_eq_true rfl⟩) hK hP hD hS hA (is := [0]) rfl rfl 0 rfl rfl rfl rfl hl.1 rfl (Nat.le_of_ble_eq_true rfl) dX6_inTheEnd_27 ⟨Nat.le_of_ble_eq_true rfl, Nat.le_of_ble_eq_true rfl⟩ rfl (fun H locs hP hD hS => ?_)
      refine lv_iconst (v := (0:Int32)) hx hb dX6_inTheEnd_30 (by decide) ?_
      refine lv_istore_n (lv' := [(2, .int (0:Int32)), (0, .ref (a0 0)), (1, .int i1)]) hx hb dX6_inTheEnd_31 rfl hl (by decide) rfl (fun ls hl => ?_)
      obtain ⟨e13, he13, hf⟩ := bd_some hf
      refine w_X6_inTheEnd_32 (Q := _) S hK hA G a0 i1 FU _ e13 he13 _ _ _ hP hD hS (lv_sub hl [1, 2, 0] rfl) (fun H locs ls hP hD hS hl => ?_)
      refine lv_aload_n hx hb dX6_inTheEnd_63 rfl (lv_at hl 0 rfl) ?_
      refine g_get (C := RX6) (T := TX6) (N := 15) hx hb hts iwX6_inTheEnd_X6 hown hK hP 0 0 rfl rfl rfl 1 (Nat.le_of_ble_eq_true rfl) (hts _ kX6_inTheEnd_1) (fun _ h9 => h9) rfl dX6_inTheEnd_64 ?_
      refine lv_iconst (v := (5:Int32)) hx hb dX6_inTheEnd_67 (by decide) ?_
      refine lv_iload_n hx hb dX6_inTheEnd_68 rfl (lv_at hl 1 rfl) ?_
      refine lv_iadd hx hb dX6_inTheEnd_69 ?_
      obtain ⟨h14, hf⟩ := gi_some hf
      refine g_iald hx hb hK hP 0 1 0 rfl rfl rfl h14 dX6_inTheEnd_70 ?_
      obtain ⟨x15, ex15, hf⟩ := lt_some hf
      refine lv_nmi ex15 ?_
      refine lv_istore_n (lv' := [(2, .int x15), (0, .ref (a0 0)), (1, .int i1)]) hx hb dX6_inTheEnd_71 rfl hl (by decide) rfl (fun ls hl => ?_)
      refine lv_aload_n hx hb dX6_inTheEnd_72 rfl (lv_at hl 1 rfl) ?_
      obtain ⟨q16, hq16, hf⟩ := bd_some hf
      refine g_callVv S (As := []) (gs' := [mdW G a0 q16.2]) (c_X6_bringBack l G a0 e13.2 hq16) (cwV 0 hts gX6_inTheEnd_X6_bringBack rfl rfl rfl hd_X6_bringBack ⟨Nat.le_of_ble_eq_true rfl, Nat.le_of_ble_eq_true rfl⟩) hK hP hD hS hA (is := [0]) rfl rfl 0 rfl rfl rfl rfl hl.1 rfl (Nat.le_of_ble_eq_true rfl) dX6_inTheEnd_73 ⟨Nat.le_of_ble_eq_true rfl, Nat.le_of_ble_eq_true rfl⟩ rfl (fun H locs hP hD hS => ?_)
      refine lv_iload_n hx hb dX6_inTheEnd_76 rfl (lv_at hl 0 rfl) ?_
      cases hf
      exact g_iret hx hb hr hlocks hP hS dX6_inTheEnd_77
    · rw [if_neg c4] at hf
      refine lv_iconst (v := (0:Int32)) hx hb dX6_inTheEnd_24 (by decide) ?_
      cases hf
      exact g_iret hx hb hr hlocks hP hS dX6_inTheEnd_25
  · rw [if_neg c2] at hf
    refine lv_iconst (v := (0:Int32)) hx hb dX6_inTheEnd_9 (by decide) ?_
    refine lv_goto (tgt := 14) hx hb dX6_inTheEnd_10 (by decide) ?_
    obtain ⟨u17, eu17, hf⟩ := lt_some hf
    refine g_put (ty := .int) (C := RX6) (T := TX6) (N := 15) (gs' := [mdW G a0 u17]) hx hb hts iwX6_inTheEnd_X6 tyX6 tyX6_ok nmX6 hown hK hP hD hS 0 0 rfl rfl rfl 0 (Nat.le_of_ble_eq_true rfl) (hts _ kX6_inTheEnd_0) (fun _ h9 => h9) rfl (by decide +kernel) rfl rfl (Nat.le_of_ble_eq_true rfl) dX6_inTheEnd_14 (by rw [eu17]; rfl) (fun H locs hP hD hS => ?_)
    refine lv_aload_n hx hb dX6_inTheEnd_17 rfl (lv_at hl 0 rfl) ?_
    refine g_get (C := RX6) (T := TX6) (N := 15) hx hb hts iwX6_inTheEnd_X6 hown hK hP 0 0 rfl rfl rfl 0 (Nat.le_of_ble_eq_true rfl) (hts _ kX6_inTheEnd_0) (fun _ h9 => h9) rfl dX6_inTheEnd_18 ?_
    refine lv_if_le (tgt := 26) hx hb dX6_inTheEnd_21 (by decide) (fun c18 => ?_) (fun c18 => ?_)
    · rw [if_pos c18] at hf
      refine lv_aload_n hx hb dX6_inTheEnd_26 rfl (lv_at hl 0 rfl) ?_
      obtain ⟨q19, hq19, hf⟩ := bd_some hf
      refine g_callVv S (As := []) (gs' := [mdW G a0 q19.2]) (c_X6_putAside l G a0 u17 hq19) (cwV 0 hts gX6_inTheEnd_X6_putAside rfl rfl rfl hd_X6_putAside ⟨Nat.le_of_ble_eq_true rfl, Nat.le_of_ble_eq_true rfl⟩) hK hP hD hS hA (is := [0]) rfl rfl 0 rfl rfl rfl rfl hl.1 rfl (Nat.le_of_ble_eq_true rfl) dX6_inTheEnd_27 ⟨Nat.le_of_ble_eq_true rfl, Nat.le_of_ble_eq_true rfl⟩ rfl (fun H locs hP hD hS => ?_)
      refine lv_iconst (v := (0:Int32)) hx hb dX6_inTheEnd_30 (by decide) ?_
      refine lv_istore_n (lv' := [(2, .int (0:Int32)), (0, .ref (a0 0)), (1, .int i1)]) hx hb dX6_inTheEnd_31 rfl hl (by decide) rfl (fun ls hl => ?_)
      obtain ⟨e20, he20, hf⟩ := bd_some hf
      refine w_X6_inTheEnd_32 (Q := _) S hK hA G a0 i1 FU _ e20 he20 _ _ _ hP hD hS (lv_sub hl [1, 2, 0] rfl) (fun H locs ls hP hD hS hl => ?_)
      refine lv_aload_n hx hb dX6_inTheEnd_63 rfl (lv_at hl 0 rfl) ?_
      refine g_get (C := RX6) (T := TX6) (N := 15) hx hb hts iwX6_inTheEnd_X6 hown hK hP 0 0 rfl rfl rfl 1 (Nat.le_of_ble_eq_true rfl) (hts _ kX6_inTheEnd_1) (fun _ h9 => h9) rfl dX6_inTheEnd_64 ?_
      refine lv_iconst (v := (5:Int32)) hx hb dX6_inTheEnd_67 (by decide) ?_
      refine lv_iload_n hx hb dX6_inTheEnd_68 rfl (lv_at hl 1 rfl) ?_
      refine lv_iadd hx hb dX6_inTheEnd_69 ?_
      obtain ⟨h21, hf⟩ := gi_some hf
      refine g_iald hx hb hK hP 0 1 0 rfl rfl rfl h21 dX6_inTheEnd_70 ?_
      obtain ⟨x22, ex22, hf⟩ := lt_some hf
      refine lv_nmi ex22 ?_
      refine lv_istore_n (lv' := [(2, .int x22), (0, .ref (a0 0)), (1, .int i1)]) hx hb dX6_inTheEnd_71 rfl hl (by decide) rfl (fun ls hl => ?_)
      refine lv_aload_n hx hb dX6_inTheEnd_72 rfl (lv_at hl 1 rfl) ?_
      obtain ⟨q23, hq23, hf⟩ := bd_some hf
      refine g_callVv S (As := []) (gs' := [mdW G a0 q23.2]) (c_X6_bringBack l G a0 e20.2 hq23) (cwV 0 hts gX6_inTheEnd_X6_bringBack rfl rfl rfl hd_X6_bringBack ⟨Nat.le_of_ble_eq_true rfl, Nat.le_of_ble_eq_true rfl⟩) hK hP hD hS hA (is := [0]) rfl rfl 0 rfl rfl rfl rfl hl.1 rfl (Nat.le_of_ble_eq_true rfl) dX6_inTheEnd_73 ⟨Nat.le_of_ble_eq_true rfl, Nat.le_of_ble_eq_true rfl⟩ rfl (fun H locs hP hD hS => ?_)
      refine lv_iload_n hx hb dX6_inTheEnd_76 rfl (lv_at hl 0 rfl) ?_
      cases hf
      exact g_iret hx hb hr hlocks hP hS dX6_inTheEnd_77
    · rw [if_neg c18] at hf
      refine lv_iconst (v := (0:Int32)) hx hb dX6_inTheEnd_24 (by decide) ?_
      cases hf
      exact g_iret hx hb hr hlocks hP hS dX6_inTheEnd_25
set_option maxHeartbeats 4000000 in
set_option maxRecDepth 100000 in
theorem w_X6_goMonths_12 {p : Program} {l : Launch} {e : Env} {s : State} {m : MethodId} {args : Array Value} {below : List Frame} {meth : Method} {c : Code} {A : Nat → Prop} {Q : State → Prop} (S : Ev p s m args meth c cX6_goMonths 4 (some .boolean) yX6_goMonths.cls wsX6_goMonths) {G : uG} (hK : kK G s) (hA : ∀ q, s.heap.size ≤ q → A q) (_ : uG) (a0 : Nat → Nat) (p1 : Int32) : ∀ (n : Nat) (z : (Int32 × Int32 × MdV)) (e1 : (Int32 × Int32 × MdV)), lp (b_X6_goMonths_12 p1) n z = some e1 → ∀ (H : Heap) (locs : List Loc) (ls : Array Slot), gP G [mdW G a0 z.2.2] H → gD A [mdW G a0 z.2.2] → va_S A s.heap H locs → lv_has ls 4 [(0, .ref (a0 0)), (1, .int p1), (2, .int z.1), (3, .int z.2.1)] → (∀ (H : Heap) (locs : List Loc) (ls : Array Slot), gP G [mdW G a0 e1.2.2] H → gD A [mdW G a0 e1.2.2] → va_S A s.heap H locs → lv_has ls 4 [(0, .ref (a0 0)), (1, .int p1), (2, .int e1.1), (3, .int e1.2.1)] → W p l e ({ frames := 3, cells := 0, slots := 0, locals := 70 } : Room) s m args below meth c H locs 0 0 Q (F0 m 41 ls [])) → W p l e ({ frames := 3, cells := 0, slots := 0, locals := 70 } : Room) s m args below meth c H locs 0 0 Q (F0 m 12 ls []) := by
  obtain ⟨hx, hb, hml, hown, hts, hr, hlocks⟩ := id S
  intro n
  induction n with
  | zero => intro z e1 h; cases h
  | succ n ih =>
    intro z e1 hlp H locs ls hP hD hS hl K
    obtain ⟨z9, hf, hz⟩ := lp_s hlp
    unfold b_X6_goMonths_12 at hf
    refine lv_iload_n hx hb dX6_goMonths_12 rfl (lv_at hl 3 rfl) ?_
    refine lv_iload_n hx hb dX6_goMonths_13 rfl (lv_at hl 1 rfl) ?_
    refine lv_icmp_ge (tgt := 41) hx hb dX6_goMonths_14 (by decide) (fun c2 => ?_) (fun c2 => ?_)
    · rw [if_pos c2] at hf
      have he := lz_r hf hz
      subst he
      exact K H locs ls hP hD hS (lv_sub hl [0, 1, 2, 3] rfl)
    · rw [if_neg c2] at hf
      refine lv_iload_n hx hb dX6_goMonths_17 rfl (lv_at hl 2 rfl) ?_
      refine lv_if_eq (tgt := 41) hx hb dX6_goMonths_18 (by decide) (fun c3 => ?_) (fun c3 => ?_)
      · rw [if_pos c3] at hf
        have he := lz_r hf hz
        subst he
        exact K H locs ls hP hD hS (lv_sub hl [0, 1, 2, 3] rfl)
      · rw [if_neg c3] at hf
        refine lv_aload_n hx hb dX6_goMonths_21 rfl (lv_at hl 0 rfl) ?_
        obtain ⟨q4, hq4, hf⟩ := bd_some hf
        refine g_callVi S (As := []) (gs' := [mdW G a0 z.2.2]) (c_X6_canGo l G a0 z.2.2 hq4) (cwV 0 hts gX6_goMonths_X6_canGo rfl rfl rfl hd_X6_canGo ⟨Nat.le_of_ble_eq_true rfl, Nat.le_of_ble_eq_true rfl⟩) hK hP hD hS hA (is := [0]) rfl rfl 0 rfl rfl rfl rfl hl.1 rfl (Nat.le_of_ble_eq_true rfl) dX6_goMonths_22 ⟨Nat.le_of_ble_eq_true rfl, Nat.le_of_ble_eq_true rfl⟩ rfl (fun H locs hP hD hS => ?_)
        refine lv_istore_n (lv' := [(2, .int q4.1), (0, .ref (a0 0)), (1, .int p1), (3, .int z.2.1)]) hx hb dX6_goMonths_25 rfl hl (by decide) rfl (fun ls hl => ?_)
        refine lv_iload_n hx hb dX6_goMonths_26 rfl (lv_at hl 0 rfl) ?_
        refine lv_if_eq (tgt := 35) hx hb dX6_goMonths_27 (by decide) (fun c5 => ?_) (fun c5 => ?_)
        · rw [if_pos c5] at hf
          obtain ⟨x6, ex6, hf⟩ := lt_some hf
          refine lv_iinc (v := x6) (lv' := [(3, .int x6), (2, .int q4.1), (0, .ref (a0 0)), (1, .int p1)]) hx hb dX6_goMonths_35 hl (k := 3) rfl (by rw [ex6]; rfl) (by decide) rfl (fun ls hl => ?_)
          refine lv_goto (tgt := 12) hx hb dX6_goMonths_38 (by decide) ?_
          exact ih _ e1 (lz_l hf hz) H locs ls hP hD hS (lv_sub hl [2, 3, 1, 0] rfl) K
        · rw [if_neg c5] at hf
          refine lv_aload_n hx hb dX6_goMonths_30 rfl (lv_at hl 1 rfl) ?_
          obtain ⟨q7, hq7, hf⟩ := bd_some hf
          refine g_callVi S (As := []) (gs' := [mdW G a0 q7.2]) (c_X6_goMonth l G a0 z.2.2 hq7) (cwV 0 hts gX6_goMonths_X6_goMonth rfl rfl rfl hd_X6_goMonth ⟨Nat.le_of_ble_eq_true rfl, Nat.le_of_ble_eq_true rfl⟩) hK hP hD hS hA (is := [0]) rfl rfl 0 rfl rfl rfl rfl hl.1 rfl (Nat.le_of_ble_eq_true rfl) dX6_goMonths_31 ⟨Nat.le_of_ble_eq_true rfl, Nat.le_of_ble_eq_true rfl⟩ rfl (fun H locs hP hD hS => ?_)
          refine lv_pop hx hb dX6_goMonths_34 rfl ?_
          obtain ⟨x8, ex8, hf⟩ := lt_some hf
          refine lv_iinc (v := x8) (lv' := [(3, .int x8), (2, .int q4.1), (0, .ref (a0 0)), (1, .int p1)]) hx hb dX6_goMonths_35 hl (k := 3) rfl (by rw [ex8]; rfl) (by decide) rfl (fun ls hl => ?_)
          refine lv_goto (tgt := 12) hx hb dX6_goMonths_38 (by decide) ?_
          exact ih _ e1 (lz_l hf hz) H locs ls hP hD hS (lv_sub hl [2, 3, 1, 0] rfl) K
set_option maxHeartbeats 4000000 in
set_option maxRecDepth 100000 in
theorem c_X6_goMonths (l : Launch) (G : uG) (a0 : Nat → Nat) (v0 : MdV) (i1 : Int32) {q : Int32 × (MdV)} (hf : f_X6_goMonths v0 i1 = some q) : mQ l yX6_goMonths wsX6_goMonths ({ frames := 3, cells := 0, slots := 0, locals := 70 } : Room) G [.ref (a0 0), .int i1] [mdW G a0 v0] [mdW G a0 q.2] (qI G [mdW G a0 q.2] q.1) := by
  unfold f_X6_goMonths at hf
  refine m_of (cc := cX6_goMonths) (maxL := 4) (ret := (some .boolean)) (by decide) rfl rfl (Nat.le_of_ble_eq_true rfl) ?_
  intro p e s m args below meth c A ls S hK hA hP hD hS hl
  obtain ⟨hx, hb, hml, hown, hts, hr, hlocks⟩ := id S
  have hl : lv_has ls 4 [(0, .ref (a0 0)), (1, .int i1)] := hl
  refine lv_iload_n hx hb dX6_goMonths_0 rfl (lv_at hl 1 rfl) ?_
  refine lv_if_le (tgt := 8) hx hb dX6_goMonths_1 (by decide) (fun c1 => ?_) (fun c1 => ?_)
  · rw [if_pos c1] at hf
    refine lv_iconst (v := (0:Int32)) hx hb dX6_goMonths_8 (by decide) ?_
    refine lv_istore_n (lv' := [(2, .int (0:Int32)), (0, .ref (a0 0)), (1, .int i1)]) hx hb dX6_goMonths_9 rfl hl (by decide) rfl (fun ls hl => ?_)
    refine lv_iconst (v := (0:Int32)) hx hb dX6_goMonths_10 (by decide) ?_
    refine lv_istore_n (lv' := [(3, .int (0:Int32)), (2, .int (0:Int32)), (0, .ref (a0 0)), (1, .int i1)]) hx hb dX6_goMonths_11 rfl hl (by decide) rfl (fun ls hl => ?_)
    obtain ⟨e9, he9, hf⟩ := bd_some hf
    refine w_X6_goMonths_12 (Q := _) S hK hA G a0 i1 FU _ e9 he9 _ _ _ hP hD hS (lv_sub hl [2, 3, 1, 0] rfl) (fun H locs ls hP hD hS hl => ?_)
    refine lv_iload_n hx hb dX6_goMonths_41 rfl (lv_at hl 2 rfl) ?_
    obtain ⟨h10, hf⟩ := gb_some hf
    cases hf
    exact g_zret hx hb hr h10 hlocks hP hS dX6_goMonths_42
  · rw [if_neg c1] at hf
    refine lv_iconst (v := (1:Int32)) hx hb dX6_goMonths_4 (by decide) ?_
    refine lv_goto (tgt := 9) hx hb dX6_goMonths_5 (by decide) ?_
    refine lv_istore_n (lv' := [(2, .int (1:Int32)), (0, .ref (a0 0)), (1, .int i1)]) hx hb dX6_goMonths_9 rfl hl (by decide) rfl (fun ls hl => ?_)
    refine lv_iconst (v := (0:Int32)) hx hb dX6_goMonths_10 (by decide) ?_
    refine lv_istore_n (lv' := [(3, .int (0:Int32)), (2, .int (1:Int32)), (0, .ref (a0 0)), (1, .int i1)]) hx hb dX6_goMonths_11 rfl hl (by decide) rfl (fun ls hl => ?_)
    obtain ⟨e11, he11, hf⟩ := bd_some hf
    refine w_X6_goMonths_12 (Q := _) S hK hA G a0 i1 FU _ e11 he11 _ _ _ hP hD hS (lv_sub hl [2, 3, 1, 0] rfl) (fun H locs ls hP hD hS hl => ?_)
    refine lv_iload_n hx hb dX6_goMonths_41 rfl (lv_at hl 2 rfl) ?_
    obtain ⟨h12, hf⟩ := gb_some hf
    cases hf
    exact g_zret hx hb hr h12 hlocks hP hS dX6_goMonths_42
theorem kX6_changes_0 : Cond.fieldLink RX6 7 "SavingsCircleModel" "z" "[I" ∈ wsX6_changes := (List.mem_cons_of_mem _ (List.mem_append_left _ (List.mem_append_left _ (List.mem_of_getElem? (i := 0) rfl))))
theorem iwX6_changes_X6 : ∀ w ∈ wsX60, w ∈ wsX6_changes := fun w h => (List.mem_cons_of_mem _ (List.mem_append_right _ h))
set_option maxHeartbeats 4000000 in
set_option maxRecDepth 100000 in
theorem c_X6_changes (l : Launch) (G : uG) (a0 : Nat → Nat) (v0 : MdV) (i1 : Int32) (i2 : Int32) (i3 : Int32) (i4 : Int32) {q : Int32 × (MdV)} (hf : f_X6_changes v0 i1 i2 i3 i4 = some q) : mQ l yX6_changes wsX6_changes ({ frames := 4, cells := 0, slots := 0, locals := 93 } : Room) G [.ref (a0 0), .int i1, .int i2, .int i3, .int i4] [mdW G a0 v0] [mdW G a0 q.2] (qI G [mdW G a0 q.2] q.1) := by
  unfold f_X6_changes at hf
  refine m_of (cc := cX6_changes) (maxL := 5) (ret := (some .boolean)) (by decide) rfl rfl (Nat.le_of_ble_eq_true rfl) ?_
  intro p e s m args below meth c A ls S hK hA hP hD hS hl
  obtain ⟨hx, hb, hml, hown, hts, hr, hlocks⟩ := id S
  have hl : lv_has ls 5 [(0, .ref (a0 0)), (1, .int i1), (2, .int i2), (3, .int i3), (4, .int i4)] := hl
  refine lv_iload_n hx hb dX6_changes_0 rfl (lv_at hl 1 rfl) ?_
  by_cases c1 : i1 = (1:Int32)
  · rw [if_pos c1] at hf
    refine lv_tableIn (tgt := 36) hx hb dX6_changes_1 (by rw [c1]; decide) (by rw [c1]; decide) (by rw [c1]; rfl) (by decide) ?_
    refine lv_iload_n hx hb dX6_changes_36 rfl (lv_at hl 2 rfl) ?_
    refine lv_if_ne (tgt := 60) hx hb dX6_changes_37 (by decide) (fun c2 => ?_) (fun c2 => ?_)
    · rw [if_neg c2] at hf
      refine lv_iconst (v := (0:Int32)) hx hb dX6_changes_60 (by decide) ?_
      cases hf
      exact g_zret hx hb hr gz0 hlocks hP hS dX6_changes_61
    · rw [if_pos c2] at hf
      refine lv_iload hx hb dX6_changes_40 (lv_at hl 4 rfl) ?_
      refine lv_bipush (v := (10:Int32)) hx hb dX6_changes_42 (by decide) ?_
      refine lv_icmp_ge (tgt := 60) hx hb dX6_changes_44 (by decide) (fun c3 => ?_) (fun c3 => ?_)
      · rw [if_pos c3] at hf
        refine lv_iconst (v := (0:Int32)) hx hb dX6_changes_60 (by decide) ?_
        cases hf
        exact g_zret hx hb hr gz0 hlocks hP hS dX6_changes_61
      · rw [if_neg c3] at hf
        refine lv_aload_n hx hb dX6_changes_47 rfl (lv_at hl 0 rfl) ?_
        refine lv_iload hx hb dX6_changes_48 (lv_at hl 4 rfl) ?_
        obtain ⟨q4, hq4, hf⟩ := bd_some hf
        refine g_callVi S (As := [.int i4]) (gs' := [mdW G a0 q4.2]) (c_X6_goMonths l G a0 v0 i4 hq4) (cwV 1 hts gX6_changes_X6_goMonths rfl rfl rfl hd_X6_goMonths ⟨Nat.le_of_ble_eq_true rfl, Nat.le_of_ble_eq_true rfl⟩) hK hP hD hS hA (is := [0]) rfl rfl 0 rfl rfl rfl rfl hl.1 rfl (Nat.le_of_ble_eq_true rfl) dX6_changes_50 ⟨Nat.le_of_ble_eq_true rfl, Nat.le_of_ble_eq_true rfl⟩ rfl (fun H locs hP hD hS => ?_)
        refine lv_if_eq (tgt := 60) hx hb dX6_changes_53 (by decide) (fun c5 => ?_) (fun c5 => ?_)
        · rw [if_pos c5] at hf
          refine lv_iconst (v := (0:Int32)) hx hb dX6_changes_60 (by decide) ?_
          cases hf
          exact g_zret hx hb hr gz0 hlocks hP hS dX6_changes_61
        · rw [if_neg c5] at hf
          refine lv_iconst (v := (1:Int32)) hx hb dX6_changes_56 (by decide) ?_
          refine lv_goto (tgt := 61) hx hb dX6_changes_57 (by decide) ?_
          cases hf
          exact g_zret hx hb hr gz1 hlocks hP hS dX6_changes_61
  · rw [if_neg c1] at hf
    by_cases c6 : i1 = (2:Int32)
    · rw [if_pos c6] at hf
      refine lv_tableIn (tgt := 62) hx hb dX6_changes_1 (by rw [c6]; decide) (by rw [c6]; decide) (by rw [c6]; rfl) (by decide) ?_
      refine lv_aload_n hx hb dX6_changes_62 rfl (lv_at hl 0 rfl) ?_
      refine lv_iload_n hx hb dX6_changes_63 rfl (lv_at hl 2 rfl) ?_
      refine lv_iload hx hb dX6_changes_64 (lv_at hl 4 rfl) ?_
      obtain ⟨q7, hq7, hf⟩ := bd_some hf
      refine g_callVi S (As := [.int i2, .int i4]) (gs' := [mdW G a0 v0]) (c_X6_whyNotBid l G a0 v0 i2 i4 hq7) (cwV 2 hts gX6_changes_X6_whyNotBid rfl rfl rfl hd_X6_whyNotBid ⟨Nat.le_of_ble_eq_true rfl, Nat.le_of_ble_eq_true rfl⟩) hK hP hD hS hA (is := [0]) rfl rfl 0 rfl rfl rfl rfl hl.1 rfl (Nat.le_of_ble_eq_true rfl) dX6_changes_66 ⟨Nat.le_of_ble_eq_true rfl, Nat.le_of_ble_eq_true rfl⟩ rfl (fun H locs hP hD hS => ?_)
      refine lv_if_le (tgt := 74) hx hb dX6_changes_69 (by decide) (fun c8 => ?_) (fun c8 => ?_)
      · rw [if_pos c8] at hf
        refine lv_aload_n hx hb dX6_changes_74 rfl (lv_at hl 0 rfl) ?_
        refine g_get (C := RX6) (T := TX6) (N := 15) hx hb hts iwX6_changes_X6 hown hK hP 0 0 rfl rfl rfl 1 (Nat.le_of_ble_eq_true rfl) (hts _ kX6_changes_0) (fun _ h9 => h9) rfl dX6_changes_75 ?_
        refine lv_bipush (v := (21:Int32)) hx hb dX6_changes_78 (by decide) ?_
        refine lv_iload_n hx hb dX6_changes_80 rfl (lv_at hl 2 rfl) ?_
        refine lv_iadd hx hb dX6_changes_81 ?_
        refine lv_iload hx hb dX6_changes_82 (lv_at hl 4 rfl) ?_
        obtain ⟨h9, hf⟩ := gi_some hf
        obtain ⟨u10, eu10, hf⟩ := lt_some hf
        refine g_iast (gs' := [mdW G a0 u10]) hx hb hK hP hD hS 0 1 0 rfl rfl rfl h9 dX6_changes_84 (by rw [eu10]; rfl) (fun H locs hP hD hS => ?_)
        refine lv_iconst (v := (1:Int32)) hx hb dX6_changes_85 (by decide) ?_
        cases hf
        exact g_zret hx hb hr gz1 hlocks hP hS dX6_changes_86
      · rw [if_neg c8] at hf
        refine lv_iconst (v := (0:Int32)) hx hb dX6_changes_72 (by decide) ?_
        cases hf
        exact g_zret hx hb hr gz0 hlocks hP hS dX6_changes_73
    · rw [if_neg c6] at hf
      by_cases c11 : i1 = (3:Int32)
      · rw [if_pos c11] at hf
        refine lv_tableIn (tgt := 87) hx hb dX6_changes_1 (by rw [c11]; decide) (by rw [c11]; decide) (by rw [c11]; rfl) (by decide) ?_
        refine lv_iload hx hb dX6_changes_87 (lv_at hl 4 rfl) ?_
        refine lv_bipush (v := (100:Int32)) hx hb dX6_changes_89 (by decide) ?_
        obtain ⟨h12, hf⟩ := gz_some hf
        refine lv_irem hx hb dX6_changes_91 h12 ?_
        refine lv_if_gt (tgt := 104) hx hb dX6_changes_92 (by decide) (fun c13 => ?_) (fun c13 => ?_)
        · rw [if_pos c13] at hf
          refine lv_iconst (v := (0:Int32)) hx hb dX6_changes_104 (by decide) ?_
          cases hf
          exact g_zret hx hb hr gz0 hlocks hP hS dX6_changes_105
        · rw [if_neg c13] at hf
          refine lv_aload_n hx hb dX6_changes_95 rfl (lv_at hl 0 rfl) ?_
          refine lv_iload_n hx hb dX6_changes_96 rfl (lv_at hl 2 rfl) ?_
          refine lv_iload_n hx hb dX6_changes_97 rfl (lv_at hl 3 rfl) ?_
          obtain ⟨q14, hq14, hf⟩ := bd_some hf
          refine g_callVi S (As := [.int i2, .int i3]) (gs' := [mdW G a0 v0]) (c_X6_whyNotTwo l G a0 v0 i2 i3 hq14) (cwV 2 hts gX6_changes_X6_whyNotTwo rfl rfl rfl hd_X6_whyNotTwo ⟨Nat.le_of_ble_eq_true rfl, Nat.le_of_ble_eq_true rfl⟩) hK hP hD hS hA (is := [0]) rfl rfl 0 rfl rfl rfl rfl hl.1 rfl (Nat.le_of_ble_eq_true rfl) dX6_changes_98 ⟨Nat.le_of_ble_eq_true rfl, Nat.le_of_ble_eq_true rfl⟩ rfl (fun H locs hP hD hS => ?_)
          refine lv_if_le (tgt := 106) hx hb dX6_changes_101 (by decide) (fun c15 => ?_) (fun c15 => ?_)
          · rw [if_pos c15] at hf
            refine lv_aload_n hx hb dX6_changes_106 rfl (lv_at hl 0 rfl) ?_
            refine g_get (C := RX6) (T := TX6) (N := 15) hx hb hts iwX6_changes_X6 hown hK hP 0 0 rfl rfl rfl 1 (Nat.le_of_ble_eq_true rfl) (hts _ kX6_changes_0) (fun _ h9 => h9) rfl dX6_changes_107 ?_
            refine lv_bipush (v := (13:Int32)) hx hb dX6_changes_110 (by decide) ?_
            refine lv_iload_n hx hb dX6_changes_112 rfl (lv_at hl 2 rfl) ?_
            refine lv_iadd hx hb dX6_changes_113 ?_
            refine lv_iload_n hx hb dX6_changes_114 rfl (lv_at hl 3 rfl) ?_
            obtain ⟨h16, hf⟩ := gi_some hf
            obtain ⟨u17, eu17, hf⟩ := lt_some hf
            refine g_iast (gs' := [mdW G a0 u17]) hx hb hK hP hD hS 0 1 0 rfl rfl rfl h16 dX6_changes_115 (by rw [eu17]; rfl) (fun H locs hP hD hS => ?_)
            refine lv_iconst (v := (1:Int32)) hx hb dX6_changes_116 (by decide) ?_
            cases hf
            exact g_zret hx hb hr gz1 hlocks hP hS dX6_changes_117
          · rw [if_neg c15] at hf
            refine lv_iconst (v := (0:Int32)) hx hb dX6_changes_104 (by decide) ?_
            cases hf
            exact g_zret hx hb hr gz0 hlocks hP hS dX6_changes_105
      · rw [if_neg c11] at hf
        by_cases c18 : i1 = (4:Int32)
        · rw [if_pos c18] at hf
          refine lv_tableIn (tgt := 118) hx hb dX6_changes_1 (by rw [c18]; decide) (by rw [c18]; decide) (by rw [c18]; rfl) (by decide) ?_
          refine lv_iload hx hb dX6_changes_118 (lv_at hl 4 rfl) ?_
          refine lv_bipush (v := (100:Int32)) hx hb dX6_changes_120 (by decide) ?_
          obtain ⟨h19, hf⟩ := gz_some hf
          refine lv_irem hx hb dX6_changes_122 h19 ?_
          refine lv_if_gt (tgt := 139) hx hb dX6_changes_123 (by decide) (fun c20 => ?_) (fun c20 => ?_)
          · rw [if_pos c20] at hf
            refine lv_iconst (v := (0:Int32)) hx hb dX6_changes_139 (by decide) ?_
            cases hf
            exact g_zret hx hb hr gz0 hlocks hP hS dX6_changes_140
          · rw [if_neg c20] at hf
            refine lv_iload_n hx hb dX6_changes_126 rfl (lv_at hl 3 rfl) ?_
            refine lv_iconst (v := (1:Int32)) hx hb dX6_changes_127 (by decide) ?_
            refine lv_icmp_gt (tgt := 139) hx hb dX6_changes_128 (by decide) (fun c21 => ?_) (fun c21 => ?_)
            · rw [if_pos c21] at hf
              refine lv_iconst (v := (0:Int32)) hx hb dX6_changes_139 (by decide) ?_
              cases hf
              exact g_zret hx hb hr gz0 hlocks hP hS dX6_changes_140
            · rw [if_neg c21] at hf
              refine lv_aload_n hx hb dX6_changes_131 rfl (lv_at hl 0 rfl) ?_
              refine lv_iload_n hx hb dX6_changes_132 rfl (lv_at hl 2 rfl) ?_
              obtain ⟨q22, hq22, hf⟩ := bd_some hf
              refine g_callVi S (As := [.int i2]) (gs' := [mdW G a0 v0]) (c_X6_isMember l G a0 v0 i2 hq22) (cwV 1 hts gX6_changes_X6_isMember rfl rfl rfl hd_X6_isMember ⟨Nat.le_of_ble_eq_true rfl, Nat.le_of_ble_eq_true rfl⟩) hK hP hD hS hA (is := [0]) rfl rfl 0 rfl rfl rfl rfl hl.1 rfl (Nat.le_of_ble_eq_true rfl) dX6_changes_133 ⟨Nat.le_of_ble_eq_true rfl, Nat.le_of_ble_eq_true rfl⟩ rfl (fun H locs hP hD hS => ?_)
              refine lv_if_ne (tgt := 141) hx hb dX6_changes_136 (by decide) (fun c23 => ?_) (fun c23 => ?_)
              · rw [if_neg c23] at hf
                refine lv_aload_n hx hb dX6_changes_141 rfl (lv_at hl 0 rfl) ?_
                refine g_get (C := RX6) (T := TX6) (N := 15) hx hb hts iwX6_changes_X6 hown hK hP 0 0 rfl rfl rfl 1 (Nat.le_of_ble_eq_true rfl) (hts _ kX6_changes_0) (fun _ h9 => h9) rfl dX6_changes_142 ?_
                refine lv_bipush (v := (29:Int32)) hx hb dX6_changes_145 (by decide) ?_
                refine lv_iload_n hx hb dX6_changes_147 rfl (lv_at hl 2 rfl) ?_
                refine lv_iadd hx hb dX6_changes_148 ?_
                refine lv_iload_n hx hb dX6_changes_149 rfl (lv_at hl 3 rfl) ?_
                obtain ⟨h24, hf⟩ := gi_some hf
                obtain ⟨u25, eu25, hf⟩ := lt_some hf
                refine g_iast (gs' := [mdW G a0 u25]) hx hb hK hP hD hS 0 1 0 rfl rfl rfl h24 dX6_changes_150 (by rw [eu25]; rfl) (fun H locs hP hD hS => ?_)
                refine lv_iconst (v := (1:Int32)) hx hb dX6_changes_151 (by decide) ?_
                cases hf
                exact g_zret hx hb hr gz1 hlocks hP hS dX6_changes_152
              · rw [if_pos c23] at hf
                refine lv_iconst (v := (0:Int32)) hx hb dX6_changes_139 (by decide) ?_
                cases hf
                exact g_zret hx hb hr gz0 hlocks hP hS dX6_changes_140
        · rw [if_neg c18] at hf
          by_cases c26 : i1 = (5:Int32)
          · rw [if_pos c26] at hf
            refine lv_tableIn (tgt := 153) hx hb dX6_changes_1 (by rw [c26]; decide) (by rw [c26]; decide) (by rw [c26]; rfl) (by decide) ?_
            refine lv_aload_n hx hb dX6_changes_153 rfl (lv_at hl 0 rfl) ?_
            refine lv_iload_n hx hb dX6_changes_154 rfl (lv_at hl 2 rfl) ?_
            refine lv_iload hx hb dX6_changes_155 (lv_at hl 4 rfl) ?_
            obtain ⟨q27, hq27, hf⟩ := bd_some hf
            refine g_callVi S (As := [.int i2, .int i4]) (gs' := [mdW G a0 v0]) (c_X6_whyNotGive l G a0 v0 i2 i4 hq27) (cwV 2 hts gX6_changes_X6_whyNotGive rfl rfl rfl hd_X6_whyNotGive ⟨Nat.le_of_ble_eq_true rfl, Nat.le_of_ble_eq_true rfl⟩) hK hP hD hS hA (is := [0]) rfl rfl 0 rfl rfl rfl rfl hl.1 rfl (Nat.le_of_ble_eq_true rfl) dX6_changes_157 ⟨Nat.le_of_ble_eq_true rfl, Nat.le_of_ble_eq_true rfl⟩ rfl (fun H locs hP hD hS => ?_)
            refine lv_if_le (tgt := 165) hx hb dX6_changes_160 (by decide) (fun c28 => ?_) (fun c28 => ?_)
            · rw [if_pos c28] at hf
              refine lv_aload_n hx hb dX6_changes_165 rfl (lv_at hl 0 rfl) ?_
              refine lv_iload_n hx hb dX6_changes_166 rfl (lv_at hl 2 rfl) ?_
              refine lv_iload hx hb dX6_changes_167 (lv_at hl 4 rfl) ?_
              obtain ⟨q29, hq29, hf⟩ := bd_some hf
              refine g_callVv S (As := [.int i2, .int i4]) (gs' := [mdW G a0 q29.2]) (c_X6_putInto l G a0 v0 i2 i4 hq29) (cwV 2 hts gX6_changes_X6_putInto rfl rfl rfl hd_X6_putInto ⟨Nat.le_of_ble_eq_true rfl, Nat.le_of_ble_eq_true rfl⟩) hK hP hD hS hA (is := [0]) rfl rfl 0 rfl rfl rfl rfl hl.1 rfl (Nat.le_of_ble_eq_true rfl) dX6_changes_169 ⟨Nat.le_of_ble_eq_true rfl, Nat.le_of_ble_eq_true rfl⟩ rfl (fun H locs hP hD hS => ?_)
              refine lv_iconst (v := (1:Int32)) hx hb dX6_changes_172 (by decide) ?_
              cases hf
              exact g_zret hx hb hr gz1 hlocks hP hS dX6_changes_173
            · rw [if_neg c28] at hf
              refine lv_iconst (v := (0:Int32)) hx hb dX6_changes_163 (by decide) ?_
              cases hf
              exact g_zret hx hb hr gz0 hlocks hP hS dX6_changes_164
          · rw [if_neg c26] at hf
            refine lv_tableOut (tgt := 174) hx hb dX6_changes_1 (by have n1 := lv_neT c1 (a := 1) (by decide); have n2 := lv_neT c6 (a := 2) (by decide); have n3 := lv_neT c11 (a := 3) (by decide); have n4 := lv_neT c18 (a := 4) (by decide); have n5 := lv_neT c26 (a := 5) (by decide); omega) (by decide) ?_
            refine lv_iload hx hb dX6_changes_174 (lv_at hl 4 rfl) ?_
            refine lv_if_gt (tgt := 187) hx hb dX6_changes_176 (by decide) (fun c30 => ?_) (fun c30 => ?_)
            · rw [if_pos c30] at hf
              refine lv_iconst (v := (0:Int32)) hx hb dX6_changes_187 (by decide) ?_
              cases hf
              exact g_zret hx hb hr gz0 hlocks hP hS dX6_changes_188
            · rw [if_neg c30] at hf
              refine lv_aload_n hx hb dX6_changes_179 rfl (lv_at hl 0 rfl) ?_
              refine lv_iload_n hx hb dX6_changes_180 rfl (lv_at hl 2 rfl) ?_
              obtain ⟨q31, hq31, hf⟩ := bd_some hf
              refine g_callVi S (As := [.int i2]) (gs' := [mdW G a0 v0]) (c_X6_whyNotLeave l G a0 v0 i2 hq31) (cwV 1 hts gX6_changes_X6_whyNotLeave rfl rfl rfl hd_X6_whyNotLeave ⟨Nat.le_of_ble_eq_true rfl, Nat.le_of_ble_eq_true rfl⟩) hK hP hD hS hA (is := [0]) rfl rfl 0 rfl rfl rfl rfl hl.1 rfl (Nat.le_of_ble_eq_true rfl) dX6_changes_181 ⟨Nat.le_of_ble_eq_true rfl, Nat.le_of_ble_eq_true rfl⟩ rfl (fun H locs hP hD hS => ?_)
              refine lv_if_le (tgt := 189) hx hb dX6_changes_184 (by decide) (fun c32 => ?_) (fun c32 => ?_)
              · rw [if_pos c32] at hf
                refine lv_aload_n hx hb dX6_changes_189 rfl (lv_at hl 0 rfl) ?_
                refine lv_iload_n hx hb dX6_changes_190 rfl (lv_at hl 2 rfl) ?_
                obtain ⟨q33, hq33, hf⟩ := bd_some hf
                refine g_callVi S (As := [.int i2]) (gs' := [mdW G a0 q33.2]) (c_X6_goAway l G a0 v0 i2 hq33) (cwV 1 hts gX6_changes_X6_goAway rfl rfl rfl hd_X6_goAway ⟨Nat.le_of_ble_eq_true rfl, Nat.le_of_ble_eq_true rfl⟩) hK hP hD hS hA (is := [0]) rfl rfl 0 rfl rfl rfl rfl hl.1 rfl (Nat.le_of_ble_eq_true rfl) dX6_changes_191 ⟨Nat.le_of_ble_eq_true rfl, Nat.le_of_ble_eq_true rfl⟩ rfl (fun H locs hP hD hS => ?_)
                refine lv_pop hx hb dX6_changes_194 rfl ?_
                refine lv_iconst (v := (1:Int32)) hx hb dX6_changes_195 (by decide) ?_
                cases hf
                exact g_zret hx hb hr gz1 hlocks hP hS dX6_changes_196
              · rw [if_neg c32] at hf
                refine lv_iconst (v := (0:Int32)) hx hb dX6_changes_187 (by decide) ?_
                cases hf
                exact g_zret hx hb hr gz0 hlocks hP hS dX6_changes_188
theorem kX6_succeeds_0 : Cond.fieldLink RX6 7 "SavingsCircleModel" "z" "[I" ∈ wsX6_succeeds := (List.mem_cons_of_mem _ (List.mem_append_left _ (List.mem_append_left _ (List.mem_of_getElem? (i := 0) rfl))))
theorem iwX6_succeeds_X6 : ∀ w ∈ wsX60, w ∈ wsX6_succeeds := fun w h => (List.mem_cons_of_mem _ (List.mem_append_right _ h))
set_option maxHeartbeats 4000000 in
set_option maxRecDepth 100000 in
theorem c_X6_succeeds (l : Launch) (G : uG) (a0 : Nat → Nat) (v0 : MdV) (i1 : Int32) {q : Int32 × (MdV)} (hf : f_X6_succeeds v0 i1 = some q) : mQ l yX6_succeeds wsX6_succeeds ({ frames := 5, cells := 0, slots := 0, locals := 117 } : Room) G [.ref (a0 0), .int i1] [mdW G a0 v0] [mdW G a0 q.2] (qI G [mdW G a0 q.2] q.1) := by
  unfold f_X6_succeeds at hf
  refine m_of (cc := cX6_succeeds) (maxL := 6) (ret := (some .boolean)) (by decide) rfl rfl (Nat.le_of_ble_eq_true rfl) ?_
  intro p e s m args below meth c A ls S hK hA hP hD hS hl
  obtain ⟨hx, hb, hml, hown, hts, hr, hlocks⟩ := id S
  have hl : lv_has ls 6 [(0, .ref (a0 0)), (1, .int i1)] := hl
  refine lv_iload_n hx hb dX6_succeeds_0 rfl (lv_at hl 1 rfl) ?_
  refine lv_sipush (v := (10000:Int32)) hx hb dX6_succeeds_1 (by decide) ?_
  obtain ⟨h1, hf⟩ := gz_some hf
  refine lv_idiv hx hb dX6_succeeds_4 h1 ?_
  obtain ⟨x2, ex2, hf⟩ := lt_some hf
  refine lv_nmi ex2 ?_
  refine lv_istore_n (lv' := [(2, .int x2), (0, .ref (a0 0)), (1, .int i1)]) hx hb dX6_succeeds_5 rfl hl (by decide) rfl (fun ls hl => ?_)
  refine lv_iload_n hx hb dX6_succeeds_6 rfl (lv_at hl 2 rfl) ?_
  refine lv_sipush (v := (1000:Int32)) hx hb dX6_succeeds_7 (by decide) ?_
  obtain ⟨h3, hf⟩ := gz_some hf
  refine lv_idiv hx hb dX6_succeeds_10 h3 ?_
  refine lv_bipush (v := (10:Int32)) hx hb dX6_succeeds_11 (by decide) ?_
  obtain ⟨h4, hf⟩ := gz_some hf
  refine lv_irem hx hb dX6_succeeds_13 h4 ?_
  obtain ⟨x5, ex5, hf⟩ := lt_some hf
  refine lv_nmi ex5 ?_
  refine lv_istore_n (lv' := [(3, .int x5), (2, .int x2), (0, .ref (a0 0)), (1, .int i1)]) hx hb dX6_succeeds_14 rfl hl (by decide) rfl (fun ls hl => ?_)
  refine lv_iload_n hx hb dX6_succeeds_15 rfl (lv_at hl 3 rfl) ?_
  refine lv_bipush (v := (100:Int32)) hx hb dX6_succeeds_16 (by decide) ?_
  obtain ⟨h6, hf⟩ := gz_some hf
  refine lv_idiv hx hb dX6_succeeds_18 h6 ?_
  refine lv_bipush (v := (10:Int32)) hx hb dX6_succeeds_19 (by decide) ?_
  obtain ⟨h7, hf⟩ := gz_some hf
  refine lv_irem hx hb dX6_succeeds_21 h7 ?_
  obtain ⟨x8, ex8, hf⟩ := lt_some hf
  refine lv_nmi ex8 ?_
  refine lv_istore (lv' := [(4, .int x8), (3, .int x5), (2, .int x2), (0, .ref (a0 0)), (1, .int i1)]) hx hb dX6_succeeds_22 hl (by decide) rfl (fun ls hl => ?_)
  refine lv_iload_n hx hb dX6_succeeds_24 rfl (lv_at hl 4 rfl) ?_
  refine lv_sipush (v := (1000:Int32)) hx hb dX6_succeeds_25 (by decide) ?_
  obtain ⟨h9, hf⟩ := gz_some hf
  refine lv_irem hx hb dX6_succeeds_28 h9 ?_
  obtain ⟨x10, ex10, hf⟩ := lt_some hf
  refine lv_nmi ex10 ?_
  refine lv_istore (lv' := [(5, .int x10), (4, .int x8), (3, .int x5), (2, .int x2), (0, .ref (a0 0)), (1, .int i1)]) hx hb dX6_succeeds_29 hl (by decide) rfl (fun ls hl => ?_)
  refine lv_iload_n hx hb dX6_succeeds_31 rfl (lv_at hl 3 rfl) ?_
  refine lv_if_ne (tgt := 37) hx hb dX6_succeeds_32 (by decide) (fun c11 => ?_) (fun c11 => ?_)
  · rw [if_neg c11] at hf
    refine lv_iload_n hx hb dX6_succeeds_37 rfl (lv_at hl 3 rfl) ?_
    refine lv_bipush (v := (7:Int32)) hx hb dX6_succeeds_38 (by decide) ?_
    refine lv_icmp_ge (tgt := 54) hx hb dX6_succeeds_40 (by decide) (fun c12 => ?_) (fun c12 => ?_)
    · rw [if_pos c12] at hf
      refine lv_aload_n hx hb dX6_succeeds_54 rfl (lv_at hl 4 rfl) ?_
      refine lv_iload_n hx hb dX6_succeeds_55 rfl (lv_at hl 2 rfl) ?_
      obtain ⟨q13, hq13, hf⟩ := bd_some hf
      refine g_callVi S (As := [.int x5]) (gs' := [mdW G a0 v0]) (c_X6_isMember l G a0 v0 x5 hq13) (cwV 1 hts gX6_succeeds_X6_isMember rfl rfl rfl hd_X6_isMember ⟨Nat.le_of_ble_eq_true rfl, Nat.le_of_ble_eq_true rfl⟩) hK hP hD hS hA (is := [0]) rfl rfl 0 rfl rfl rfl rfl hl.1 rfl (Nat.le_of_ble_eq_true rfl) dX6_succeeds_56 ⟨Nat.le_of_ble_eq_true rfl, Nat.le_of_ble_eq_true rfl⟩ rfl (fun H locs hP hD hS => ?_)
      refine lv_if_ne (tgt := 64) hx hb dX6_succeeds_59 (by decide) (fun c14 => ?_) (fun c14 => ?_)
      · rw [if_neg c14] at hf
        refine lv_iload_n hx hb dX6_succeeds_64 rfl (lv_at hl 3 rfl) ?_
        refine lv_bipush (v := (7:Int32)) hx hb dX6_succeeds_65 (by decide) ?_
        refine lv_icmp_ne (tgt := 89) hx hb dX6_succeeds_67 (by decide) (fun c15 => ?_) (fun c15 => ?_)
        · rw [if_neg c15] at hf
          refine lv_iload_n hx hb dX6_succeeds_89 rfl (lv_at hl 3 rfl) ?_
          refine lv_bipush (v := (8:Int32)) hx hb dX6_succeeds_90 (by decide) ?_
          refine lv_icmp_ne (tgt := 139) hx hb dX6_succeeds_92 (by decide) (fun c16 => ?_) (fun c16 => ?_)
          · rw [if_neg c16] at hf
            refine lv_iload hx hb dX6_succeeds_139 (lv_at hl 0 rfl) ?_
            refine lv_if_ne (tgt := 161) hx hb dX6_succeeds_141 (by decide) (fun c17 => ?_) (fun c17 => ?_)
            · rw [if_neg c17] at hf
              refine lv_iconst (v := (0:Int32)) hx hb dX6_succeeds_161 (by decide) ?_
              cases hf
              exact g_zret hx hb hr gz0 hlocks hP hS dX6_succeeds_162
            · rw [if_pos c17] at hf
              refine lv_aload_n hx hb dX6_succeeds_144 rfl (lv_at hl 4 rfl) ?_
              refine g_get (C := RX6) (T := TX6) (N := 15) hx hb hts iwX6_succeeds_X6 hown hK hP 0 0 rfl rfl rfl 1 (Nat.le_of_ble_eq_true rfl) (hts _ kX6_succeeds_0) (fun _ h9 => h9) rfl dX6_succeeds_145 ?_
              refine lv_bipush (v := (37:Int32)) hx hb dX6_succeeds_148 (by decide) ?_
              refine lv_iload_n hx hb dX6_succeeds_150 rfl (lv_at hl 2 rfl) ?_
              refine lv_iadd hx hb dX6_succeeds_151 ?_
              obtain ⟨h18, hf⟩ := gi_some hf
              refine g_iald hx hb hK hP 0 1 0 rfl rfl rfl h18 dX6_succeeds_152 ?_
              refine lv_iconst (v := (1:Int32)) hx hb dX6_succeeds_153 (by decide) ?_
              refine lv_icmp_ne (tgt := 161) hx hb dX6_succeeds_154 (by decide) (fun c19 => ?_) (fun c19 => ?_)
              · rw [if_neg c19] at hf
                refine lv_iconst (v := (0:Int32)) hx hb dX6_succeeds_161 (by decide) ?_
                cases hf
                exact g_zret hx hb hr gz0 hlocks hP hS dX6_succeeds_162
              · rw [if_pos c19] at hf
                refine lv_iconst (v := (1:Int32)) hx hb dX6_succeeds_157 (by decide) ?_
                refine lv_goto (tgt := 162) hx hb dX6_succeeds_158 (by decide) ?_
                cases hf
                exact g_zret hx hb hr gz1 hlocks hP hS dX6_succeeds_162
          · rw [if_pos c16] at hf
            refine lv_aload_n hx hb dX6_succeeds_95 rfl (lv_at hl 4 rfl) ?_
            refine lv_iload hx hb dX6_succeeds_96 (lv_at hl 1 rfl) ?_
            obtain ⟨q20, hq20, hf⟩ := bd_some hf
            refine g_callVi S (As := [.int x8]) (gs' := [mdW G a0 v0]) (c_X6_isMember l G a0 v0 x8 hq20) (cwV 1 hts gX6_succeeds_X6_isMember rfl rfl rfl hd_X6_isMember ⟨Nat.le_of_ble_eq_true rfl, Nat.le_of_ble_eq_true rfl⟩) hK hP hD hS hA (is := [0]) rfl rfl 0 rfl rfl rfl rfl hl.1 rfl (Nat.le_of_ble_eq_true rfl) dX6_succeeds_98 ⟨Nat.le_of_ble_eq_true rfl, Nat.le_of_ble_eq_true rfl⟩ rfl (fun H locs hP hD hS => ?_)
            refine lv_if_eq (tgt := 137) hx hb dX6_succeeds_101 (by decide) (fun c21 => ?_) (fun c21 => ?_)
            · rw [if_pos c21] at hf
              refine lv_iconst (v := (0:Int32)) hx hb dX6_succeeds_137 (by decide) ?_
              cases hf
              exact g_zret hx hb hr gz0 hlocks hP hS dX6_succeeds_138
            · rw [if_neg c21] at hf
              refine lv_iload_n hx hb dX6_succeeds_104 rfl (lv_at hl 2 rfl) ?_
              refine lv_iload hx hb dX6_succeeds_105 (lv_at hl 1 rfl) ?_
              refine lv_icmp_eq (tgt := 137) hx hb dX6_succeeds_107 (by decide) (fun c22 => ?_) (fun c22 => ?_)
              · rw [if_pos c22] at hf
                refine lv_iconst (v := (0:Int32)) hx hb dX6_succeeds_137 (by decide) ?_
                cases hf
                exact g_zret hx hb hr gz0 hlocks hP hS dX6_succeeds_138
              · rw [if_neg c22] at hf
                refine lv_aload_n hx hb dX6_succeeds_110 rfl (lv_at hl 4 rfl) ?_
                refine g_get (C := RX6) (T := TX6) (N := 15) hx hb hts iwX6_succeeds_X6 hown hK hP 0 0 rfl rfl rfl 1 (Nat.le_of_ble_eq_true rfl) (hts _ kX6_succeeds_0) (fun _ h9 => h9) rfl dX6_succeeds_111 ?_
                refine lv_bipush (v := (93:Int32)) hx hb dX6_succeeds_114 (by decide) ?_
                refine lv_bipush (v := (8:Int32)) hx hb dX6_succeeds_116 (by decide) ?_
                refine lv_iload_n hx hb dX6_succeeds_118 rfl (lv_at hl 2 rfl) ?_
                refine lv_imul hx hb dX6_succeeds_119 ?_
                refine lv_iadd hx hb dX6_succeeds_120 ?_
                refine lv_iload hx hb dX6_succeeds_121 (lv_at hl 1 rfl) ?_
                refine lv_iadd hx hb dX6_succeeds_123 ?_
                obtain ⟨h23, hf⟩ := gi_some hf
                refine g_iald hx hb hK hP 0 1 0 rfl rfl rfl h23 dX6_succeeds_124 ?_
                obtain ⟨x24, ex24, hf⟩ := lt_some hf
                refine lv_nmi ex24 ?_
                refine lv_iload hx hb dX6_succeeds_125 (lv_at hl 0 rfl) ?_
                refine lv_bipush (v := (100:Int32)) hx hb dX6_succeeds_127 (by decide) ?_
                obtain ⟨h25, hf⟩ := gz_some hf
                refine lv_irem hx hb dX6_succeeds_129 h25 ?_
                refine lv_icmp_gt (tgt := 137) hx hb dX6_succeeds_130 (by decide) (fun c26 => ?_) (fun c26 => ?_)
                · rw [if_pos c26] at hf
                  refine lv_iconst (v := (0:Int32)) hx hb dX6_succeeds_137 (by decide) ?_
                  cases hf
                  exact g_zret hx hb hr gz0 hlocks hP hS dX6_succeeds_138
                · rw [if_neg c26] at hf
                  refine lv_iconst (v := (1:Int32)) hx hb dX6_succeeds_133 (by decide) ?_
                  refine lv_goto (tgt := 138) hx hb dX6_succeeds_134 (by decide) ?_
                  cases hf
                  exact g_zret hx hb hr gz1 hlocks hP hS dX6_succeeds_138
        · rw [if_pos c15] at hf
          refine lv_aload_n hx hb dX6_succeeds_70 rfl (lv_at hl 4 rfl) ?_
          refine g_get (C := RX6) (T := TX6) (N := 15) hx hb hts iwX6_succeeds_X6 hown hK hP 0 0 rfl rfl rfl 1 (Nat.le_of_ble_eq_true rfl) (hts _ kX6_succeeds_0) (fun _ h9 => h9) rfl dX6_succeeds_71 ?_
          refine lv_iconst (v := (5:Int32)) hx hb dX6_succeeds_74 (by decide) ?_
          refine lv_iload_n hx hb dX6_succeeds_75 rfl (lv_at hl 2 rfl) ?_
          refine lv_iadd hx hb dX6_succeeds_76 ?_
          obtain ⟨h27, hf⟩ := gi_some hf
          refine g_iald hx hb hK hP 0 1 0 rfl rfl rfl h27 dX6_succeeds_77 ?_
          refine lv_iload hx hb dX6_succeeds_78 (lv_at hl 0 rfl) ?_
          refine lv_icmp_lt (tgt := 87) hx hb dX6_succeeds_80 (by decide) (fun c28 => ?_) (fun c28 => ?_)
          · rw [if_pos c28] at hf
            refine lv_iconst (v := (0:Int32)) hx hb dX6_succeeds_87 (by decide) ?_
            cases hf
            exact g_zret hx hb hr gz0 hlocks hP hS dX6_succeeds_88
          · rw [if_neg c28] at hf
            refine lv_iconst (v := (1:Int32)) hx hb dX6_succeeds_83 (by decide) ?_
            refine lv_goto (tgt := 88) hx hb dX6_succeeds_84 (by decide) ?_
            cases hf
            exact g_zret hx hb hr gz1 hlocks hP hS dX6_succeeds_88
      · rw [if_pos c14] at hf
        refine lv_iconst (v := (0:Int32)) hx hb dX6_succeeds_62 (by decide) ?_
        cases hf
        exact g_zret hx hb hr gz0 hlocks hP hS dX6_succeeds_63
    · rw [if_neg c12] at hf
      refine lv_aload_n hx hb dX6_succeeds_43 rfl (lv_at hl 4 rfl) ?_
      refine lv_iload_n hx hb dX6_succeeds_44 rfl (lv_at hl 3 rfl) ?_
      refine lv_iload_n hx hb dX6_succeeds_45 rfl (lv_at hl 2 rfl) ?_
      refine lv_iload hx hb dX6_succeeds_46 (lv_at hl 1 rfl) ?_
      refine lv_iload hx hb dX6_succeeds_48 (lv_at hl 0 rfl) ?_
      obtain ⟨q29, hq29, hf⟩ := bd_some hf
      refine g_callVi S (As := [.int x2, .int x5, .int x8, .int x10]) (gs' := [mdW G a0 q29.2]) (c_X6_changes l G a0 v0 x2 x5 x8 x10 hq29) (cwV 4 hts gX6_succeeds_X6_changes rfl rfl rfl hd_X6_changes ⟨Nat.le_of_ble_eq_true rfl, Nat.le_of_ble_eq_true rfl⟩) hK hP hD hS hA (is := [0]) rfl rfl 0 rfl rfl rfl rfl hl.1 rfl (Nat.le_of_ble_eq_true rfl) dX6_succeeds_50 ⟨Nat.le_of_ble_eq_true rfl, Nat.le_of_ble_eq_true rfl⟩ rfl (fun H locs hP hD hS => ?_)
      obtain ⟨h30, hf⟩ := gb_some hf
      cases hf
      exact g_zret hx hb hr h30 hlocks hP hS dX6_succeeds_53
  · rw [if_pos c11] at hf
    refine lv_iconst (v := (0:Int32)) hx hb dX6_succeeds_35 (by decide) ?_
    cases hf
    exact g_zret hx hb hr gz0 hlocks hP hS dX6_succeeds_36
theorem kX6_runScript_0 : Cond.constantLong RX6 174 (100000) ∈ wsX6_runScript := (List.mem_cons_of_mem _ (List.mem_append_left _ (List.mem_append_left _ (List.mem_of_getElem? (i := 0) rfl))))
theorem kX6_runScript_1 : Cond.fieldLink RX6 38 "SavingsCircleModel" "thrown" "I" ∈ wsX6_runScript := (List.mem_cons_of_mem _ (List.mem_append_left _ (List.mem_append_left _ (List.mem_of_getElem? (i := 1) rfl))))
theorem kX6_runScript_2 : Cond.constant RX6 49 (-99999) ∈ wsX6_runScript := (List.mem_cons_of_mem _ (List.mem_append_left _ (List.mem_append_left _ (List.mem_of_getElem? (i := 2) rfl))))
theorem iwX6_runScript_X6 : ∀ w ∈ wsX60, w ∈ wsX6_runScript := fun w h => (List.mem_cons_of_mem _ (List.mem_append_right _ h))
set_option maxHeartbeats 4000000 in
set_option maxRecDepth 100000 in
theorem w_X6_runScript_30 {p : Program} {l : Launch} {e : Env} {s : State} {m : MethodId} {args : Array Value} {below : List Frame} {meth : Method} {c : Code} {A : Nat → Prop} {Q : State → Prop} (S : Ev p s m args meth c cX6_runScript 10 (some .int) yX6_runScript.cls wsX6_runScript) {G : uG} (hK : kK G s) (hA : ∀ q, s.heap.size ≤ q → A q) (_ : uG) (a0 : Nat → Nat) (v0 : MdV) (p1 : Int32) (p2 : Int64) (p4 : Int32) : ∀ (n : Nat) (z : (Int64 × Int32)) (e1 : (Int64 × Int32)), lp (b_X6_runScript_30 v0 p1 p2 p4) n z = some e1 → ∀ (H : Heap) (locs : List Loc) (ls : Array Slot), gP G [mdW G a0 v0] H → gD A [mdW G a0 v0] → va_S A s.heap H locs → lv_has ls 10 [(0, .ref (a0 0)), (1, .int p1), (2, .long p2), (4, .int p4), (5, .long z.1), (7, .int z.2)] → (∀ (H : Heap) (locs : List Loc) (ls : Array Slot), gP G [mdW G a0 v0] H → gD A [mdW G a0 v0] → va_S A s.heap H locs → lv_has ls 10 [(0, .ref (a0 0)), (1, .int p1), (2, .long p2), (4, .int p4), (5, .long e1.1), (7, .int e1.2)] → W p l e ({ frames := 6, cells := 0, slots := 0, locals := 142 } : Room) s m args below meth c H locs 0 0 Q (F0 m 55 ls [])) → W p l e ({ frames := 6, cells := 0, slots := 0, locals := 142 } : Room) s m args below meth c H locs 0 0 Q (F0 m 30 ls []) := by
  obtain ⟨hx, hb, hml, hown, hts, hr, hlocks⟩ := id S
  intro n
  induction n with
  | zero => intro z e1 h; cases h
  | succ n ih =>
    intro z e1 hlp H locs ls hP hD hS hl K
    obtain ⟨z9, hf, hz⟩ := lp_s hlp
    unfold b_X6_runScript_30 at hf
    refine lv_iload hx hb dX6_runScript_30 (lv_at hl 5 rfl) ?_
    refine lv_iload_n hx hb dX6_runScript_32 rfl (lv_at hl 1 rfl) ?_
    refine lv_icmp_ge (tgt := 55) hx hb dX6_runScript_33 (by decide) (fun c3 => ?_) (fun c3 => ?_)
    · rw [if_pos c3] at hf
      have he := lz_r hf hz
      subst he
      exact K H locs ls hP hD hS (lv_sub hl [0, 1, 2, 3, 4, 5] rfl)
    · rw [if_neg c3] at hf
      refine lv_iload hx hb dX6_runScript_36 (lv_at hl 3 rfl) ?_
      refine lv_if_eq (tgt := 55) hx hb dX6_runScript_38 (by decide) (fun c4 => ?_) (fun c4 => ?_)
      · rw [if_pos c4] at hf
        have he := lz_r hf hz
        subst he
        exact K H locs ls hP hD hS (lv_sub hl [0, 1, 2, 3, 4, 5] rfl)
      · rw [if_neg c4] at hf
        refine lv_lload hx hb dX6_runScript_41 (lv_at hl 4 rfl) ?_
        refine lv_ldc2 (v := (100000:Int64)) hx hb hown (hts _ kX6_runScript_0) dX6_runScript_43 ?_
        refine lv_lmul hx hb dX6_runScript_46 ?_
        obtain ⟨x5, ex5, hf⟩ := lt_some hf
        refine lv_nml ex5 ?_
        refine lv_lstore (lv' := [(5, .long x5), (0, .ref (a0 0)), (1, .int p1), (2, .long p2), (4, .int p4), (7, .int z.2)]) hx hb dX6_runScript_47 hl (by decide) rfl (fun ls hl => ?_)
        obtain ⟨x6, ex6, hf⟩ := lt_some hf
        refine lv_iinc (v := x6) (lv' := [(7, .int x6), (5, .long x5), (0, .ref (a0 0)), (1, .int p1), (2, .long p2), (4, .int p4)]) hx hb dX6_runScript_49 hl (k := 5) rfl (by rw [ex6]; rfl) (by decide) rfl (fun ls hl => ?_)
        refine lv_goto (tgt := 30) hx hb dX6_runScript_52 (by decide) ?_
        exact ih _ e1 (lz_l hf hz) H locs ls hP hD hS (lv_sub hl [2, 3, 4, 5, 1, 0] rfl) K
set_option maxHeartbeats 4000000 in
set_option maxRecDepth 100000 in
theorem w_X6_runScript_96 {p : Program} {l : Launch} {e : Env} {s : State} {m : MethodId} {args : Array Value} {below : List Frame} {meth : Method} {c : Code} {A : Nat → Prop} {Q : State → Prop} (S : Ev p s m args meth c cX6_runScript 10 (some .int) yX6_runScript.cls wsX6_runScript) {G : uG} (hK : kK G s) (hA : ∀ q, s.heap.size ≤ q → A q) (_ : uG) (a0 : Nat → Nat) (p1 : Int32) (p2 : Int64) : ∀ (n : Nat) (z : (Int64 × Int32 × Int32 × MdV)) (e1 : (Int64 × Int32 × Int32 × MdV)), lp (b_X6_runScript_96 p1 p2) n z = some e1 → ∀ (H : Heap) (locs : List Loc) (ls : Array Slot), gP G [mdW G a0 z.2.2.2] H → gD A [mdW G a0 z.2.2.2] → va_S A s.heap H locs → lv_has ls 10 [(0, .ref (a0 0)), (1, .int p1), (2, .long p2), (5, .long z.1), (7, .int z.2.1), (8, .int z.2.2.1)] → (∀ (H : Heap) (locs : List Loc) (ls : Array Slot), gP G [mdW G a0 e1.2.2.2] H → gD A [mdW G a0 e1.2.2.2] → va_S A s.heap H locs → lv_has ls 10 [(0, .ref (a0 0)), (1, .int p1), (2, .long p2), (5, .long e1.1), (7, .int e1.2.1), (8, .int e1.2.2.1)] → W p l e ({ frames := 6, cells := 0, slots := 0, locals := 142 } : Room) s m args below meth c H locs 0 0 Q (F0 m 152 ls [])) → W p l e ({ frames := 6, cells := 0, slots := 0, locals := 142 } : Room) s m args below meth c H locs 0 0 Q (F0 m 96 ls []) := by
  obtain ⟨hx, hb, hml, hown, hts, hr, hlocks⟩ := id S
  intro n
  induction n with
  | zero => intro z e1 h; cases h
  | succ n ih =>
    intro z e1 hlp H locs ls hP hD hS hl K
    obtain ⟨z9, hf, hz⟩ := lp_s hlp
    unfold b_X6_runScript_96 at hf
    refine lv_iload hx hb dX6_runScript_96 (lv_at hl 5 rfl) ?_
    refine lv_iload_n hx hb dX6_runScript_98 rfl (lv_at hl 1 rfl) ?_
    refine lv_icmp_ge (tgt := 152) hx hb dX6_runScript_99 (by decide) (fun c12 => ?_) (fun c12 => ?_)
    · rw [if_pos c12] at hf
      have he := lz_r hf hz
      subst he
      exact K H locs ls hP hD hS (lv_sub hl [0, 1, 2, 3, 4, 5] rfl)
    · rw [if_neg c12] at hf
      refine lv_iload hx hb dX6_runScript_102 (lv_at hl 4 rfl) ?_
      refine lv_ldc (v := (-99999:Int32)) hx hb hown (hts _ kX6_runScript_2) dX6_runScript_104 ?_
      refine lv_icmp_ne (tgt := 152) hx hb dX6_runScript_106 (by decide) (fun c13 => ?_) (fun c13 => ?_)
      · rw [if_neg c13] at hf
        have he := lz_r hf hz
        subst he
        exact K H locs ls hP hD hS (lv_sub hl [0, 1, 2, 3, 4, 5] rfl)
      · rw [if_pos c13] at hf
        refine lv_lload hx hb dX6_runScript_109 (lv_at hl 3 rfl) ?_
        refine lv_ldc2 (v := (100000:Int64)) hx hb hown (hts _ kX6_runScript_0) dX6_runScript_111 ?_
        obtain ⟨h14, hf⟩ := gzl_some hf
        refine lv_ldiv hx hb dX6_runScript_114 h14 ?_
        obtain ⟨x15, ex15, hf⟩ := lt_some hf
        refine lv_nml ex15 ?_
        refine lv_lstore (lv' := [(5, .long x15), (0, .ref (a0 0)), (1, .int p1), (2, .long p2), (7, .int z.2.1), (8, .int z.2.2.1)]) hx hb dX6_runScript_115 hl (by decide) rfl (fun ls hl => ?_)
        refine lv_lload_n hx hb dX6_runScript_117 rfl (lv_at hl 3 rfl) ?_
        refine lv_lload hx hb dX6_runScript_118 (lv_at hl 0 rfl) ?_
        obtain ⟨h16, hf⟩ := gzl_some hf
        refine lv_ldiv hx hb dX6_runScript_120 h16 ?_
        refine lv_ldc2 (v := (100000:Int64)) hx hb hown (hts _ kX6_runScript_0) dX6_runScript_121 ?_
        obtain ⟨h17, hf⟩ := gzl_some hf
        refine lv_lrem hx hb dX6_runScript_124 h17 ?_
        obtain ⟨x18, ex18, hf⟩ := lt_some hf
        refine lv_nml ex18 ?_
        refine lv_l2i (v := x18.toInt32) hx hb dX6_runScript_125 rfl ?_
        obtain ⟨x19, ex19, hf⟩ := lt_some hf
        refine lv_nmi ex19 ?_
        refine lv_istore (lv' := [(9, .int x19), (5, .long x15), (0, .ref (a0 0)), (1, .int p1), (2, .long p2), (7, .int z.2.1), (8, .int z.2.2.1)]) hx hb dX6_runScript_126 hl (by decide) rfl (fun ls hl => ?_)
        refine lv_aload_n hx hb dX6_runScript_128 rfl (lv_at hl 2 rfl) ?_
        refine lv_iload hx hb dX6_runScript_129 (lv_at hl 0 rfl) ?_
        obtain ⟨q20, hq20, hf⟩ := bd_some hf
        refine g_callVi S (As := [.int x19]) (gs' := [mdW G a0 q20.2]) (c_X6_succeeds l G a0 z.2.2.2 x19 hq20) (cwV 1 hts gX6_runScript_X6_succeeds rfl rfl rfl hd_X6_succeeds ⟨Nat.le_of_ble_eq_true rfl, Nat.le_of_ble_eq_true rfl⟩) hK hP hD hS hA (is := [0]) rfl rfl 0 rfl rfl rfl rfl hl.1 rfl (Nat.le_of_ble_eq_true rfl) dX6_runScript_131 ⟨Nat.le_of_ble_eq_true rfl, Nat.le_of_ble_eq_true rfl⟩ rfl (fun H locs hP hD hS => ?_)
        refine lv_if_eq (tgt := 142) hx hb dX6_runScript_134 (by decide) (fun c21 => ?_) (fun c21 => ?_)
        · rw [if_pos c21] at hf
          refine lv_iload hx hb dX6_runScript_142 (lv_at hl 6 rfl) ?_
          refine lv_istore (lv' := [(7, .int z.2.2.1), (9, .int x19), (5, .long x15), (0, .ref (a0 0)), (1, .int p1), (2, .long p2), (8, .int z.2.2.1)]) hx hb dX6_runScript_144 hl (by decide) rfl (fun ls hl => ?_)
          obtain ⟨x22, ex22, hf⟩ := lt_some hf
          refine lv_iinc (v := x22) (lv' := [(8, .int x22), (7, .int z.2.2.1), (9, .int x19), (5, .long x15), (0, .ref (a0 0)), (1, .int p1), (2, .long p2)]) hx hb dX6_runScript_146 hl (k := 6) rfl (by rw [ex22]; rfl) (by decide) rfl (fun ls hl => ?_)
          refine lv_goto (tgt := 96) hx hb dX6_runScript_149 (by decide) ?_
          exact ih _ e1 (lz_l hf hz) H locs ls hP hD hS (lv_sub hl [4, 5, 6, 3, 1, 0] rfl) K
        · rw [if_neg c21] at hf
          refine lv_ldc (v := (-99999:Int32)) hx hb hown (hts _ kX6_runScript_2) dX6_runScript_137 ?_
          refine lv_goto (tgt := 144) hx hb dX6_runScript_139 (by decide) ?_
          refine lv_istore (lv' := [(7, .int (-99999:Int32)), (9, .int x19), (5, .long x15), (0, .ref (a0 0)), (1, .int p1), (2, .long p2), (8, .int z.2.2.1)]) hx hb dX6_runScript_144 hl (by decide) rfl (fun ls hl => ?_)
          obtain ⟨x23, ex23, hf⟩ := lt_some hf
          refine lv_iinc (v := x23) (lv' := [(8, .int x23), (7, .int (-99999:Int32)), (9, .int x19), (5, .long x15), (0, .ref (a0 0)), (1, .int p1), (2, .long p2)]) hx hb dX6_runScript_146 hl (k := 6) rfl (by rw [ex23]; rfl) (by decide) rfl (fun ls hl => ?_)
          refine lv_goto (tgt := 96) hx hb dX6_runScript_149 (by decide) ?_
          exact ih _ e1 (lz_l hf hz) H locs ls hP hD hS (lv_sub hl [4, 5, 6, 3, 1, 0] rfl) K
set_option maxHeartbeats 4000000 in
set_option maxRecDepth 100000 in
theorem c_X6_runScript (l : Launch) (G : uG) (a0 : Nat → Nat) (v0 : MdV) (i1 : Int32) (i2 : Int64) {q : Int32 × (MdV)} (hf : f_X6_runScript v0 i1 i2 = some q) : mQ l yX6_runScript wsX6_runScript ({ frames := 6, cells := 0, slots := 0, locals := 142 } : Room) G [.ref (a0 0), .int i1, .long i2] [mdW G a0 v0] [mdW G a0 q.2] (qI G [mdW G a0 q.2] q.1) := by
  unfold f_X6_runScript at hf
  refine m_of (cc := cX6_runScript) (maxL := 10) (ret := (some .int)) (by decide) rfl rfl (Nat.le_of_ble_eq_true rfl) ?_
  intro p e s m args below meth c A ls S hK hA hP hD hS hl
  obtain ⟨hx, hb, hml, hown, hts, hr, hlocks⟩ := id S
  have hl : lv_has ls 10 [(0, .ref (a0 0)), (1, .int i1), (2, .long i2)] := hl
  refine lv_iload_n hx hb dX6_runScript_0 rfl (lv_at hl 1 rfl) ?_
  refine lv_iconst (v := (1:Int32)) hx hb dX6_runScript_1 (by decide) ?_
  refine lv_iconst (v := (3:Int32)) hx hb dX6_runScript_2 (by decide) ?_
  obtain ⟨q1, hq1, hf⟩ := bd_some hf
  refine g_callSi S (As := [.int i1, .int (1:Int32), .int (3:Int32)]) (gs' := [mdW G a0 v0]) (c_X6_in l G i1 (1:Int32) (3:Int32) hq1) (va_cwS 3 hts gX6_runScript_X6_in rfl rfl rfl hd_X6_in.2 ⟨Nat.le_of_ble_eq_true rfl, Nat.le_of_ble_eq_true rfl⟩) hK hP hD hS hA (is := []) rfl rfl rfl hl.1 rfl (Nat.le_of_ble_eq_true rfl) dX6_runScript_3 ⟨Nat.le_of_ble_eq_true rfl, Nat.le_of_ble_eq_true rfl⟩ rfl (fun H locs hP hD hS => ?_)
  refine lv_if_eq (tgt := 19) hx hb dX6_runScript_6 (by decide) (fun c2 => ?_) (fun c2 => ?_)
  · rw [if_pos c2] at hf
    refine lv_iconst (v := (0:Int32)) hx hb dX6_runScript_19 (by decide) ?_
    refine lv_istore (lv' := [(4, .int (0:Int32)), (0, .ref (a0 0)), (1, .int i1), (2, .long i2)]) hx hb dX6_runScript_20 hl (by decide) rfl (fun ls hl => ?_)
    refine lv_ldc2 (v := (100000:Int64)) hx hb hown (hts _ kX6_runScript_0) dX6_runScript_22 ?_
    refine lv_lstore (lv' := [(5, .long (100000:Int64)), (4, .int (0:Int32)), (0, .ref (a0 0)), (1, .int i1), (2, .long i2)]) hx hb dX6_runScript_25 hl (by decide) rfl (fun ls hl => ?_)
    refine lv_iconst (v := (1:Int32)) hx hb dX6_runScript_27 (by decide) ?_
    refine lv_istore (lv' := [(7, .int (1:Int32)), (5, .long (100000:Int64)), (4, .int (0:Int32)), (0, .ref (a0 0)), (1, .int i1), (2, .long i2)]) hx hb dX6_runScript_28 hl (by decide) rfl (fun ls hl => ?_)
    obtain ⟨e7, he7, hf⟩ := bd_some hf
    refine w_X6_runScript_30 (Q := _) S hK hA G a0 v0 i1 i2 (0:Int32) FU _ e7 he7 _ _ _ hP hD hS (lv_sub hl [3, 4, 5, 2, 1, 0] rfl) (fun H locs ls hP hD hS hl => ?_)
    refine lv_aload_n hx hb dX6_runScript_55 rfl (lv_at hl 0 rfl) ?_
    refine lv_iload hx hb dX6_runScript_56 (lv_at hl 3 rfl) ?_
    refine lv_if_eq (tgt := 72) hx hb dX6_runScript_58 (by decide) (fun c8 => ?_) (fun c8 => ?_)
    · rw [if_pos c8] at hf
      refine lv_iconst (v := (1:Int32)) hx hb dX6_runScript_72 (by decide) ?_
      obtain ⟨u9, eu9, hf⟩ := lt_some hf
      refine g_put (ty := .int) (C := RX6) (T := TX6) (N := 15) (gs' := [mdW G a0 u9]) hx hb hts iwX6_runScript_X6 tyX6 tyX6_ok nmX6 hown hK hP hD hS 0 0 rfl rfl rfl 0 (Nat.le_of_ble_eq_true rfl) (hts _ kX6_runScript_1) (fun _ h9 => h9) rfl (by decide +kernel) rfl rfl (Nat.le_of_ble_eq_true rfl) dX6_runScript_73 (by rw [eu9]; rfl) (fun H locs hP hD hS => ?_)
      refine lv_aload_n hx hb dX6_runScript_76 rfl (lv_at hl 0 rfl) ?_
      refine g_get (C := RX6) (T := TX6) (N := 15) hx hb hts iwX6_runScript_X6 hown hK hP 0 0 rfl rfl rfl 0 (Nat.le_of_ble_eq_true rfl) (hts _ kX6_runScript_1) (fun _ h9 => h9) rfl dX6_runScript_77 ?_
      refine lv_if_le (tgt := 85) hx hb dX6_runScript_80 (by decide) (fun c10 => ?_) (fun c10 => ?_)
      · rw [if_pos c10] at hf
        refine lv_aload_n hx hb dX6_runScript_85 rfl (lv_at hl 0 rfl) ?_
        obtain ⟨q11, hq11, hf⟩ := bd_some hf
        refine g_callVv S (As := []) (gs' := [mdW G a0 q11.2]) (c_X6_putAside l G a0 u9 hq11) (cwV 0 hts gX6_runScript_X6_putAside rfl rfl rfl hd_X6_putAside ⟨Nat.le_of_ble_eq_true rfl, Nat.le_of_ble_eq_true rfl⟩) hK hP hD hS hA (is := [0]) rfl rfl 0 rfl rfl rfl rfl hl.1 rfl (Nat.le_of_ble_eq_true rfl) dX6_runScript_86 ⟨Nat.le_of_ble_eq_true rfl, Nat.le_of_ble_eq_true rfl⟩ rfl (fun H locs hP hD hS => ?_)
        refine lv_ldc (v := (-99999:Int32)) hx hb hown (hts _ kX6_runScript_2) dX6_runScript_89 ?_
        refine lv_istore (lv' := [(7, .int (-99999:Int32)), (0, .ref (a0 0)), (1, .int i1), (2, .long i2), (4, .int (0:Int32)), (5, .long e7.1)]) hx hb dX6_runScript_91 hl (by decide) rfl (fun ls hl => ?_)
        refine lv_iconst (v := (0:Int32)) hx hb dX6_runScript_93 (by decide) ?_
        refine lv_istore (lv' := [(8, .int (0:Int32)), (7, .int (-99999:Int32)), (0, .ref (a0 0)), (1, .int i1), (2, .long i2), (4, .int (0:Int32)), (5, .long e7.1)]) hx hb dX6_runScript_94 hl (by decide) rfl (fun ls hl => ?_)
        obtain ⟨e24, he24, hf⟩ := bd_some hf
        refine w_X6_runScript_96 (Q := _) S hK hA G a0 i1 i2 FU _ e24 he24 _ _ _ hP hD hS (lv_sub hl [2, 3, 4, 6, 1, 0] rfl) (fun H locs ls hP hD hS hl => ?_)
        refine lv_aload_n hx hb dX6_runScript_152 rfl (lv_at hl 0 rfl) ?_
        obtain ⟨q25, hq25, hf⟩ := bd_some hf
        refine g_callVv S (As := []) (gs' := [mdW G a0 q25.2]) (c_X6_bringBack l G a0 e24.2.2.2 hq25) (cwV 0 hts gX6_runScript_X6_bringBack rfl rfl rfl hd_X6_bringBack ⟨Nat.le_of_ble_eq_true rfl, Nat.le_of_ble_eq_true rfl⟩) hK hP hD hS hA (is := [0]) rfl rfl 0 rfl rfl rfl rfl hl.1 rfl (Nat.le_of_ble_eq_true rfl) dX6_runScript_153 ⟨Nat.le_of_ble_eq_true rfl, Nat.le_of_ble_eq_true rfl⟩ rfl (fun H locs hP hD hS => ?_)
        refine lv_iload hx hb dX6_runScript_156 (lv_at hl 4 rfl) ?_
        cases hf
        exact g_iret hx hb hr hlocks hP hS dX6_runScript_158
      · rw [if_neg c10] at hf
        refine lv_iconst (v := (0:Int32)) hx hb dX6_runScript_83 (by decide) ?_
        cases hf
        exact g_iret hx hb hr hlocks hP hS dX6_runScript_84
    · rw [if_neg c8] at hf
      refine lv_lload_n hx hb dX6_runScript_61 rfl (lv_at hl 2 rfl) ?_
      refine lv_lload hx hb dX6_runScript_62 (lv_at hl 4 rfl) ?_
      refine W.lcmp hx hb dX6_runScript_64 ?_
      refine lv_if_ge (tgt := 72) hx hb dX6_runScript_65 (by decide) (fun c26 => ?_) (fun c26 => ?_)
      · rw [if_pos c26] at hf
        refine lv_iconst (v := (1:Int32)) hx hb dX6_runScript_72 (by decide) ?_
        obtain ⟨u27, eu27, hf⟩ := lt_some hf
        refine g_put (ty := .int) (C := RX6) (T := TX6) (N := 15) (gs' := [mdW G a0 u27]) hx hb hts iwX6_runScript_X6 tyX6 tyX6_ok nmX6 hown hK hP hD hS 0 0 rfl rfl rfl 0 (Nat.le_of_ble_eq_true rfl) (hts _ kX6_runScript_1) (fun _ h9 => h9) rfl (by decide +kernel) rfl rfl (Nat.le_of_ble_eq_true rfl) dX6_runScript_73 (by rw [eu27]; rfl) (fun H locs hP hD hS => ?_)
        refine lv_aload_n hx hb dX6_runScript_76 rfl (lv_at hl 0 rfl) ?_
        refine g_get (C := RX6) (T := TX6) (N := 15) hx hb hts iwX6_runScript_X6 hown hK hP 0 0 rfl rfl rfl 0 (Nat.le_of_ble_eq_true rfl) (hts _ kX6_runScript_1) (fun _ h9 => h9) rfl dX6_runScript_77 ?_
        refine lv_if_le (tgt := 85) hx hb dX6_runScript_80 (by decide) (fun c28 => ?_) (fun c28 => ?_)
        · rw [if_pos c28] at hf
          refine lv_aload_n hx hb dX6_runScript_85 rfl (lv_at hl 0 rfl) ?_
          obtain ⟨q29, hq29, hf⟩ := bd_some hf
          refine g_callVv S (As := []) (gs' := [mdW G a0 q29.2]) (c_X6_putAside l G a0 u27 hq29) (cwV 0 hts gX6_runScript_X6_putAside rfl rfl rfl hd_X6_putAside ⟨Nat.le_of_ble_eq_true rfl, Nat.le_of_ble_eq_true rfl⟩) hK hP hD hS hA (is := [0]) rfl rfl 0 rfl rfl rfl rfl hl.1 rfl (Nat.le_of_ble_eq_true rfl) dX6_runScript_86 ⟨Nat.le_of_ble_eq_true rfl, Nat.le_of_ble_eq_true rfl⟩ rfl (fun H locs hP hD hS => ?_)
          refine lv_ldc (v := (-99999:Int32)) hx hb hown (hts _ kX6_runScript_2) dX6_runScript_89 ?_
          refine lv_istore (lv' := [(7, .int (-99999:Int32)), (0, .ref (a0 0)), (1, .int i1), (2, .long i2), (4, .int (0:Int32)), (5, .long e7.1)]) hx hb dX6_runScript_91 hl (by decide) rfl (fun ls hl => ?_)
          refine lv_iconst (v := (0:Int32)) hx hb dX6_runScript_93 (by decide) ?_
          refine lv_istore (lv' := [(8, .int (0:Int32)), (7, .int (-99999:Int32)), (0, .ref (a0 0)), (1, .int i1), (2, .long i2), (4, .int (0:Int32)), (5, .long e7.1)]) hx hb dX6_runScript_94 hl (by decide) rfl (fun ls hl => ?_)
          obtain ⟨e30, he30, hf⟩ := bd_some hf
          refine w_X6_runScript_96 (Q := _) S hK hA G a0 i1 i2 FU _ e30 he30 _ _ _ hP hD hS (lv_sub hl [2, 3, 4, 6, 1, 0] rfl) (fun H locs ls hP hD hS hl => ?_)
          refine lv_aload_n hx hb dX6_runScript_152 rfl (lv_at hl 0 rfl) ?_
          obtain ⟨q31, hq31, hf⟩ := bd_some hf
          refine g_callVv S (As := []) (gs' := [mdW G a0 q31.2]) (c_X6_bringBack l G a0 e30.2.2.2 hq31) (cwV 0 hts gX6_runScript_X6_bringBack rfl rfl rfl hd_X6_bringBack ⟨Nat.le_of_ble_eq_true rfl, Nat.le_of_ble_eq_true rfl⟩) hK hP hD hS hA (is := [0]) rfl rfl 0 rfl rfl rfl rfl hl.1 rfl (Nat.le_of_ble_eq_true rfl) dX6_runScript_153 ⟨Nat.le_of_ble_eq_true rfl, Nat.le_of_ble_eq_true rfl⟩ rfl (fun H locs hP hD hS => ?_)
          refine lv_iload hx hb dX6_runScript_156 (lv_at hl 4 rfl) ?_
          cases hf
          exact g_iret hx hb hr hlocks hP hS dX6_runScript_158
        · rw [if_neg c28] at hf
          refine lv_iconst (v := (0:Int32)) hx hb dX6_runScript_83 (by decide) ?_
          cases hf
          exact g_iret hx hb hr hlocks hP hS dX6_runScript_84
      · rw [if_neg c26] at hf
        refine lv_iconst (v := (0:Int32)) hx hb dX6_runScript_68 (by decide) ?_
        refine lv_goto (tgt := 73) hx hb dX6_runScript_69 (by decide) ?_
        obtain ⟨u32, eu32, hf⟩ := lt_some hf
        refine g_put (ty := .int) (C := RX6) (T := TX6) (N := 15) (gs' := [mdW G a0 u32]) hx hb hts iwX6_runScript_X6 tyX6 tyX6_ok nmX6 hown hK hP hD hS 0 0 rfl rfl rfl 0 (Nat.le_of_ble_eq_true rfl) (hts _ kX6_runScript_1) (fun _ h9 => h9) rfl (by decide +kernel) rfl rfl (Nat.le_of_ble_eq_true rfl) dX6_runScript_73 (by rw [eu32]; rfl) (fun H locs hP hD hS => ?_)
        refine lv_aload_n hx hb dX6_runScript_76 rfl (lv_at hl 0 rfl) ?_
        refine g_get (C := RX6) (T := TX6) (N := 15) hx hb hts iwX6_runScript_X6 hown hK hP 0 0 rfl rfl rfl 0 (Nat.le_of_ble_eq_true rfl) (hts _ kX6_runScript_1) (fun _ h9 => h9) rfl dX6_runScript_77 ?_
        refine lv_if_le (tgt := 85) hx hb dX6_runScript_80 (by decide) (fun c33 => ?_) (fun c33 => ?_)
        · rw [if_pos c33] at hf
          refine lv_aload_n hx hb dX6_runScript_85 rfl (lv_at hl 0 rfl) ?_
          obtain ⟨q34, hq34, hf⟩ := bd_some hf
          refine g_callVv S (As := []) (gs' := [mdW G a0 q34.2]) (c_X6_putAside l G a0 u32 hq34) (cwV 0 hts gX6_runScript_X6_putAside rfl rfl rfl hd_X6_putAside ⟨Nat.le_of_ble_eq_true rfl, Nat.le_of_ble_eq_true rfl⟩) hK hP hD hS hA (is := [0]) rfl rfl 0 rfl rfl rfl rfl hl.1 rfl (Nat.le_of_ble_eq_true rfl) dX6_runScript_86 ⟨Nat.le_of_ble_eq_true rfl, Nat.le_of_ble_eq_true rfl⟩ rfl (fun H locs hP hD hS => ?_)
          refine lv_ldc (v := (-99999:Int32)) hx hb hown (hts _ kX6_runScript_2) dX6_runScript_89 ?_
          refine lv_istore (lv' := [(7, .int (-99999:Int32)), (0, .ref (a0 0)), (1, .int i1), (2, .long i2), (4, .int (0:Int32)), (5, .long e7.1)]) hx hb dX6_runScript_91 hl (by decide) rfl (fun ls hl => ?_)
          refine lv_iconst (v := (0:Int32)) hx hb dX6_runScript_93 (by decide) ?_
          refine lv_istore (lv' := [(8, .int (0:Int32)), (7, .int (-99999:Int32)), (0, .ref (a0 0)), (1, .int i1), (2, .long i2), (4, .int (0:Int32)), (5, .long e7.1)]) hx hb dX6_runScript_94 hl (by decide) rfl (fun ls hl => ?_)
          obtain ⟨e35, he35, hf⟩ := bd_some hf
          refine w_X6_runScript_96 (Q := _) S hK hA G a0 i1 i2 FU _ e35 he35 _ _ _ hP hD hS (lv_sub hl [2, 3, 4, 6, 1, 0] rfl) (fun H locs ls hP hD hS hl => ?_)
          refine lv_aload_n hx hb dX6_runScript_152 rfl (lv_at hl 0 rfl) ?_
          obtain ⟨q36, hq36, hf⟩ := bd_some hf
          refine g_callVv S (As := []) (gs' := [mdW G a0 q36.2]) (c_X6_bringBack l G a0 e35.2.2.2 hq36) (cwV 0 hts gX6_runScript_X6_bringBack rfl rfl rfl hd_X6_bringBack ⟨Nat.le_of_ble_eq_true rfl, Nat.le_of_ble_eq_true rfl⟩) hK hP hD hS hA (is := [0]) rfl rfl 0 rfl rfl rfl rfl hl.1 rfl (Nat.le_of_ble_eq_true rfl) dX6_runScript_153 ⟨Nat.le_of_ble_eq_true rfl, Nat.le_of_ble_eq_true rfl⟩ rfl (fun H locs hP hD hS => ?_)
          refine lv_iload hx hb dX6_runScript_156 (lv_at hl 4 rfl) ?_
          cases hf
          exact g_iret hx hb hr hlocks hP hS dX6_runScript_158
        · rw [if_neg c33] at hf
          refine lv_iconst (v := (0:Int32)) hx hb dX6_runScript_83 (by decide) ?_
          cases hf
          exact g_iret hx hb hr hlocks hP hS dX6_runScript_84
  · rw [if_neg c2] at hf
    refine lv_lload_n hx hb dX6_runScript_9 rfl (lv_at hl 2 rfl) ?_
    refine lv_lconst (v := (0:Int64)) hx hb dX6_runScript_10 (by decide) ?_
    refine W.lcmp hx hb dX6_runScript_11 ?_
    refine lv_if_lt (tgt := 19) hx hb dX6_runScript_12 (by decide) (fun c37 => ?_) (fun c37 => ?_)
    · rw [if_pos c37] at hf
      refine lv_iconst (v := (0:Int32)) hx hb dX6_runScript_19 (by decide) ?_
      refine lv_istore (lv' := [(4, .int (0:Int32)), (0, .ref (a0 0)), (1, .int i1), (2, .long i2)]) hx hb dX6_runScript_20 hl (by decide) rfl (fun ls hl => ?_)
      refine lv_ldc2 (v := (100000:Int64)) hx hb hown (hts _ kX6_runScript_0) dX6_runScript_22 ?_
      refine lv_lstore (lv' := [(5, .long (100000:Int64)), (4, .int (0:Int32)), (0, .ref (a0 0)), (1, .int i1), (2, .long i2)]) hx hb dX6_runScript_25 hl (by decide) rfl (fun ls hl => ?_)
      refine lv_iconst (v := (1:Int32)) hx hb dX6_runScript_27 (by decide) ?_
      refine lv_istore (lv' := [(7, .int (1:Int32)), (5, .long (100000:Int64)), (4, .int (0:Int32)), (0, .ref (a0 0)), (1, .int i1), (2, .long i2)]) hx hb dX6_runScript_28 hl (by decide) rfl (fun ls hl => ?_)
      obtain ⟨e38, he38, hf⟩ := bd_some hf
      refine w_X6_runScript_30 (Q := _) S hK hA G a0 v0 i1 i2 (0:Int32) FU _ e38 he38 _ _ _ hP hD hS (lv_sub hl [3, 4, 5, 2, 1, 0] rfl) (fun H locs ls hP hD hS hl => ?_)
      refine lv_aload_n hx hb dX6_runScript_55 rfl (lv_at hl 0 rfl) ?_
      refine lv_iload hx hb dX6_runScript_56 (lv_at hl 3 rfl) ?_
      refine lv_if_eq (tgt := 72) hx hb dX6_runScript_58 (by decide) (fun c39 => ?_) (fun c39 => ?_)
      · rw [if_pos c39] at hf
        refine lv_iconst (v := (1:Int32)) hx hb dX6_runScript_72 (by decide) ?_
        obtain ⟨u40, eu40, hf⟩ := lt_some hf
        refine g_put (ty := .int) (C := RX6) (T := TX6) (N := 15) (gs' := [mdW G a0 u40]) hx hb hts iwX6_runScript_X6 tyX6 tyX6_ok nmX6 hown hK hP hD hS 0 0 rfl rfl rfl 0 (Nat.le_of_ble_eq_true rfl) (hts _ kX6_runScript_1) (fun _ h9 => h9) rfl (by decide +kernel) rfl rfl (Nat.le_of_ble_eq_true rfl) dX6_runScript_73 (by rw [eu40]; rfl) (fun H locs hP hD hS => ?_)
        refine lv_aload_n hx hb dX6_runScript_76 rfl (lv_at hl 0 rfl) ?_
        refine g_get (C := RX6) (T := TX6) (N := 15) hx hb hts iwX6_runScript_X6 hown hK hP 0 0 rfl rfl rfl 0 (Nat.le_of_ble_eq_true rfl) (hts _ kX6_runScript_1) (fun _ h9 => h9) rfl dX6_runScript_77 ?_
        refine lv_if_le (tgt := 85) hx hb dX6_runScript_80 (by decide) (fun c41 => ?_) (fun c41 => ?_)
        · rw [if_pos c41] at hf
          refine lv_aload_n hx hb dX6_runScript_85 rfl (lv_at hl 0 rfl) ?_
          obtain ⟨q42, hq42, hf⟩ := bd_some hf
          refine g_callVv S (As := []) (gs' := [mdW G a0 q42.2]) (c_X6_putAside l G a0 u40 hq42) (cwV 0 hts gX6_runScript_X6_putAside rfl rfl rfl hd_X6_putAside ⟨Nat.le_of_ble_eq_true rfl, Nat.le_of_ble_eq_true rfl⟩) hK hP hD hS hA (is := [0]) rfl rfl 0 rfl rfl rfl rfl hl.1 rfl (Nat.le_of_ble_eq_true rfl) dX6_runScript_86 ⟨Nat.le_of_ble_eq_true rfl, Nat.le_of_ble_eq_true rfl⟩ rfl (fun H locs hP hD hS => ?_)
          refine lv_ldc (v := (-99999:Int32)) hx hb hown (hts _ kX6_runScript_2) dX6_runScript_89 ?_
          refine lv_istore (lv' := [(7, .int (-99999:Int32)), (0, .ref (a0 0)), (1, .int i1), (2, .long i2), (4, .int (0:Int32)), (5, .long e38.1)]) hx hb dX6_runScript_91 hl (by decide) rfl (fun ls hl => ?_)
          refine lv_iconst (v := (0:Int32)) hx hb dX6_runScript_93 (by decide) ?_
          refine lv_istore (lv' := [(8, .int (0:Int32)), (7, .int (-99999:Int32)), (0, .ref (a0 0)), (1, .int i1), (2, .long i2), (4, .int (0:Int32)), (5, .long e38.1)]) hx hb dX6_runScript_94 hl (by decide) rfl (fun ls hl => ?_)
          obtain ⟨e43, he43, hf⟩ := bd_some hf
          refine w_X6_runScript_96 (Q := _) S hK hA G a0 i1 i2 FU _ e43 he43 _ _ _ hP hD hS (lv_sub hl [2, 3, 4, 6, 1, 0] rfl) (fun H locs ls hP hD hS hl => ?_)
          refine lv_aload_n hx hb dX6_runScript_152 rfl (lv_at hl 0 rfl) ?_
          obtain ⟨q44, hq44, hf⟩ := bd_some hf
          refine g_callVv S (As := []) (gs' := [mdW G a0 q44.2]) (c_X6_bringBack l G a0 e43.2.2.2 hq44) (cwV 0 hts gX6_runScript_X6_bringBack rfl rfl rfl hd_X6_bringBack ⟨Nat.le_of_ble_eq_true rfl, Nat.le_of_ble_eq_true rfl⟩) hK hP hD hS hA (is := [0]) rfl rfl 0 rfl rfl rfl rfl hl.1 rfl (Nat.le_of_ble_eq_true rfl) dX6_runScript_153 ⟨Nat.le_of_ble_eq_true rfl, Nat.le_of_ble_eq_true rfl⟩ rfl (fun H locs hP hD hS => ?_)
          refine lv_iload hx hb dX6_runScript_156 (lv_at hl 4 rfl) ?_
          cases hf
          exact g_iret hx hb hr hlocks hP hS dX6_runScript_158
        · rw [if_neg c41] at hf
          refine lv_iconst (v := (0:Int32)) hx hb dX6_runScript_83 (by decide) ?_
          cases hf
          exact g_iret hx hb hr hlocks hP hS dX6_runScript_84
      · rw [if_neg c39] at hf
        refine lv_lload_n hx hb dX6_runScript_61 rfl (lv_at hl 2 rfl) ?_
        refine lv_lload hx hb dX6_runScript_62 (lv_at hl 4 rfl) ?_
        refine W.lcmp hx hb dX6_runScript_64 ?_
        refine lv_if_ge (tgt := 72) hx hb dX6_runScript_65 (by decide) (fun c45 => ?_) (fun c45 => ?_)
        · rw [if_pos c45] at hf
          refine lv_iconst (v := (1:Int32)) hx hb dX6_runScript_72 (by decide) ?_
          obtain ⟨u46, eu46, hf⟩ := lt_some hf
          refine g_put (ty := .int) (C := RX6) (T := TX6) (N := 15) (gs' := [mdW G a0 u46]) hx hb hts iwX6_runScript_X6 tyX6 tyX6_ok nmX6 hown hK hP hD hS 0 0 rfl rfl rfl 0 (Nat.le_of_ble_eq_true rfl) (hts _ kX6_runScript_1) (fun _ h9 => h9) rfl (by decide +kernel) rfl rfl (Nat.le_of_ble_eq_true rfl) dX6_runScript_73 (by rw [eu46]; rfl) (fun H locs hP hD hS => ?_)
          refine lv_aload_n hx hb dX6_runScript_76 rfl (lv_at hl 0 rfl) ?_
          refine g_get (C := RX6) (T := TX6) (N := 15) hx hb hts iwX6_runScript_X6 hown hK hP 0 0 rfl rfl rfl 0 (Nat.le_of_ble_eq_true rfl) (hts _ kX6_runScript_1) (fun _ h9 => h9) rfl dX6_runScript_77 ?_
          refine lv_if_le (tgt := 85) hx hb dX6_runScript_80 (by decide) (fun c47 => ?_) (fun c47 => ?_)
          · rw [if_pos c47] at hf
            refine lv_aload_n hx hb dX6_runScript_85 rfl (lv_at hl 0 rfl) ?_
            obtain ⟨q48, hq48, hf⟩ := bd_some hf
            refine g_callVv S (As := []) (gs' := [mdW G a0 q48.2]) (c_X6_putAside l G a0 u46 hq48) (cwV 0 hts gX6_runScript_X6_putAside rfl rfl rfl hd_X6_putAside ⟨Nat.le_of_ble_eq_true rfl, Nat.le_of_ble_eq_true rfl⟩) hK hP hD hS hA (is := [0]) rfl rfl 0 rfl rfl rfl rfl hl.1 rfl (Nat.le_of_ble_eq_true rfl) dX6_runScript_86 ⟨Nat.le_of_ble_eq_true rfl, Nat.le_of_ble_eq_true rfl⟩ rfl (fun H locs hP hD hS => ?_)
            refine lv_ldc (v := (-99999:Int32)) hx hb hown (hts _ kX6_runScript_2) dX6_runScript_89 ?_
            refine lv_istore (lv' := [(7, .int (-99999:Int32)), (0, .ref (a0 0)), (1, .int i1), (2, .long i2), (4, .int (0:Int32)), (5, .long e38.1)]) hx hb dX6_runScript_91 hl (by decide) rfl (fun ls hl => ?_)
            refine lv_iconst (v := (0:Int32)) hx hb dX6_runScript_93 (by decide) ?_
            refine lv_istore (lv' := [(8, .int (0:Int32)), (7, .int (-99999:Int32)), (0, .ref (a0 0)), (1, .int i1), (2, .long i2), (4, .int (0:Int32)), (5, .long e38.1)]) hx hb dX6_runScript_94 hl (by decide) rfl (fun ls hl => ?_)
            obtain ⟨e49, he49, hf⟩ := bd_some hf
            refine w_X6_runScript_96 (Q := _) S hK hA G a0 i1 i2 FU _ e49 he49 _ _ _ hP hD hS (lv_sub hl [2, 3, 4, 6, 1, 0] rfl) (fun H locs ls hP hD hS hl => ?_)
            refine lv_aload_n hx hb dX6_runScript_152 rfl (lv_at hl 0 rfl) ?_
            obtain ⟨q50, hq50, hf⟩ := bd_some hf
            refine g_callVv S (As := []) (gs' := [mdW G a0 q50.2]) (c_X6_bringBack l G a0 e49.2.2.2 hq50) (cwV 0 hts gX6_runScript_X6_bringBack rfl rfl rfl hd_X6_bringBack ⟨Nat.le_of_ble_eq_true rfl, Nat.le_of_ble_eq_true rfl⟩) hK hP hD hS hA (is := [0]) rfl rfl 0 rfl rfl rfl rfl hl.1 rfl (Nat.le_of_ble_eq_true rfl) dX6_runScript_153 ⟨Nat.le_of_ble_eq_true rfl, Nat.le_of_ble_eq_true rfl⟩ rfl (fun H locs hP hD hS => ?_)
            refine lv_iload hx hb dX6_runScript_156 (lv_at hl 4 rfl) ?_
            cases hf
            exact g_iret hx hb hr hlocks hP hS dX6_runScript_158
          · rw [if_neg c47] at hf
            refine lv_iconst (v := (0:Int32)) hx hb dX6_runScript_83 (by decide) ?_
            cases hf
            exact g_iret hx hb hr hlocks hP hS dX6_runScript_84
        · rw [if_neg c45] at hf
          refine lv_iconst (v := (0:Int32)) hx hb dX6_runScript_68 (by decide) ?_
          refine lv_goto (tgt := 73) hx hb dX6_runScript_69 (by decide) ?_
          obtain ⟨u51, eu51, hf⟩ := lt_some hf
          refine g_put (ty := .int) (C := RX6) (T := TX6) (N := 15) (gs' := [mdW G a0 u51]) hx hb hts iwX6_runScript_X6 tyX6 tyX6_ok nmX6 hown hK hP hD hS 0 0 rfl rfl rfl 0 (Nat.le_of_ble_eq_true rfl) (hts _ kX6_runScript_1) (fun _ h9 => h9) rfl (by decide +kernel) rfl rfl (Nat.le_of_ble_eq_true rfl) dX6_runScript_73 (by rw [eu51]; rfl) (fun H locs hP hD hS => ?_)
          refine lv_aload_n hx hb dX6_runScript_76 rfl (lv_at hl 0 rfl) ?_
          refine g_get (C := RX6) (T := TX6) (N := 15) hx hb hts iwX6_runScript_X6 hown hK hP 0 0 rfl rfl rfl 0 (Nat.le_of_ble_eq_true rfl) (hts _ kX6_runScript_1) (fun _ h9 => h9) rfl dX6_runScript_77 ?_
          refine lv_if_le (tgt := 85) hx hb dX6_runScript_80 (by decide) (fun c52 => ?_) (fun c52 => ?_)
          · rw [if_pos c52] at hf
            refine lv_aload_n hx hb dX6_runScript_85 rfl (lv_at hl 0 rfl) ?_
            obtain ⟨q53, hq53, hf⟩ := bd_some hf
            refine g_callVv S (As := []) (gs' := [mdW G a0 q53.2]) (c_X6_putAside l G a0 u51 hq53) (cwV 0 hts gX6_runScript_X6_putAside rfl rfl rfl hd_X6_putAside ⟨Nat.le_of_ble_eq_true rfl, Nat.le_of_ble_eq_true rfl⟩) hK hP hD hS hA (is := [0]) rfl rfl 0 rfl rfl rfl rfl hl.1 rfl (Nat.le_of_ble_eq_true rfl) dX6_runScript_86 ⟨Nat.le_of_ble_eq_true rfl, Nat.le_of_ble_eq_true rfl⟩ rfl (fun H locs hP hD hS => ?_)
            refine lv_ldc (v := (-99999:Int32)) hx hb hown (hts _ kX6_runScript_2) dX6_runScript_89 ?_
            refine lv_istore (lv' := [(7, .int (-99999:Int32)), (0, .ref (a0 0)), (1, .int i1), (2, .long i2), (4, .int (0:Int32)), (5, .long e38.1)]) hx hb dX6_runScript_91 hl (by decide) rfl (fun ls hl => ?_)
            refine lv_iconst (v := (0:Int32)) hx hb dX6_runScript_93 (by decide) ?_
            refine lv_istore (lv' := [(8, .int (0:Int32)), (7, .int (-99999:Int32)), (0, .ref (a0 0)), (1, .int i1), (2, .long i2), (4, .int (0:Int32)), (5, .long e38.1)]) hx hb dX6_runScript_94 hl (by decide) rfl (fun ls hl => ?_)
            obtain ⟨e54, he54, hf⟩ := bd_some hf
            refine w_X6_runScript_96 (Q := _) S hK hA G a0 i1 i2 FU _ e54 he54 _ _ _ hP hD hS (lv_sub hl [2, 3, 4, 6, 1, 0] rfl) (fun H locs ls hP hD hS hl => ?_)
            refine lv_aload_n hx hb dX6_runScript_152 rfl (lv_at hl 0 rfl) ?_
            obtain ⟨q55, hq55, hf⟩ := bd_some hf
            refine g_callVv S (As := []) (gs' := [mdW G a0 q55.2]) (c_X6_bringBack l G a0 e54.2.2.2 hq55) (cwV 0 hts gX6_runScript_X6_bringBack rfl rfl rfl hd_X6_bringBack ⟨Nat.le_of_ble_eq_true rfl, Nat.le_of_ble_eq_true rfl⟩) hK hP hD hS hA (is := [0]) rfl rfl 0 rfl rfl rfl rfl hl.1 rfl (Nat.le_of_ble_eq_true rfl) dX6_runScript_153 ⟨Nat.le_of_ble_eq_true rfl, Nat.le_of_ble_eq_true rfl⟩ rfl (fun H locs hP hD hS => ?_)
            refine lv_iload hx hb dX6_runScript_156 (lv_at hl 4 rfl) ?_
            cases hf
            exact g_iret hx hb hr hlocks hP hS dX6_runScript_158
          · rw [if_neg c52] at hf
            refine lv_iconst (v := (0:Int32)) hx hb dX6_runScript_83 (by decide) ?_
            cases hf
            exact g_iret hx hb hr hlocks hP hS dX6_runScript_84
    · rw [if_neg c37] at hf
      refine lv_iconst (v := (1:Int32)) hx hb dX6_runScript_15 (by decide) ?_
      refine lv_goto (tgt := 20) hx hb dX6_runScript_16 (by decide) ?_
      refine lv_istore (lv' := [(4, .int (1:Int32)), (0, .ref (a0 0)), (1, .int i1), (2, .long i2)]) hx hb dX6_runScript_20 hl (by decide) rfl (fun ls hl => ?_)
      refine lv_ldc2 (v := (100000:Int64)) hx hb hown (hts _ kX6_runScript_0) dX6_runScript_22 ?_
      refine lv_lstore (lv' := [(5, .long (100000:Int64)), (4, .int (1:Int32)), (0, .ref (a0 0)), (1, .int i1), (2, .long i2)]) hx hb dX6_runScript_25 hl (by decide) rfl (fun ls hl => ?_)
      refine lv_iconst (v := (1:Int32)) hx hb dX6_runScript_27 (by decide) ?_
      refine lv_istore (lv' := [(7, .int (1:Int32)), (5, .long (100000:Int64)), (4, .int (1:Int32)), (0, .ref (a0 0)), (1, .int i1), (2, .long i2)]) hx hb dX6_runScript_28 hl (by decide) rfl (fun ls hl => ?_)
      obtain ⟨e56, he56, hf⟩ := bd_some hf
      refine w_X6_runScript_30 (Q := _) S hK hA G a0 v0 i1 i2 (1:Int32) FU _ e56 he56 _ _ _ hP hD hS (lv_sub hl [3, 4, 5, 2, 1, 0] rfl) (fun H locs ls hP hD hS hl => ?_)
      refine lv_aload_n hx hb dX6_runScript_55 rfl (lv_at hl 0 rfl) ?_
      refine lv_iload hx hb dX6_runScript_56 (lv_at hl 3 rfl) ?_
      refine lv_if_eq (tgt := 72) hx hb dX6_runScript_58 (by decide) (fun c57 => ?_) (fun c57 => ?_)
      · rw [if_pos c57] at hf
        refine lv_iconst (v := (1:Int32)) hx hb dX6_runScript_72 (by decide) ?_
        obtain ⟨u58, eu58, hf⟩ := lt_some hf
        refine g_put (ty := .int) (C := RX6) (T := TX6) (N := 15) (gs' := [mdW G a0 u58]) hx hb hts iwX6_runScript_X6 tyX6 tyX6_ok nmX6 hown hK hP hD hS 0 0 rfl rfl rfl 0 (Nat.le_of_ble_eq_true rfl) (hts _ kX6_runScript_1) (fun _ h9 => h9) rfl (by decide +kernel) rfl rfl (Nat.le_of_ble_eq_true rfl) dX6_runScript_73 (by rw [eu58]; rfl) (fun H locs hP hD hS => ?_)
        refine lv_aload_n hx hb dX6_runScript_76 rfl (lv_at hl 0 rfl) ?_
        refine g_get (C := RX6) (T := TX6) (N := 15) hx hb hts iwX6_runScript_X6 hown hK hP 0 0 rfl rfl rfl 0 (Nat.le_of_ble_eq_true rfl) (hts _ kX6_runScript_1) (fun _ h9 => h9) rfl dX6_runScript_77 ?_
        refine lv_if_le (tgt := 85) hx hb dX6_runScript_80 (by decide) (fun c59 => ?_) (fun c59 => ?_)
        · rw [if_pos c59] at hf
          refine lv_aload_n hx hb dX6_runScript_85 rfl (lv_at hl 0 rfl) ?_
          obtain ⟨q60, hq60, hf⟩ := bd_some hf
          refine g_callVv S (As := []) (gs' := [mdW G a0 q60.2]) (c_X6_putAside l G a0 u58 hq60) (cwV 0 hts gX6_runScript_X6_putAside rfl rfl rfl hd_X6_putAside ⟨Nat.le_of_ble_eq_true rfl, Nat.le_of_ble_eq_true rfl⟩) hK hP hD hS hA (is := [0]) rfl rfl 0 rfl rfl rfl rfl hl.1 rfl (Nat.le_of_ble_eq_true rfl) dX6_runScript_86 ⟨Nat.le_of_ble_eq_true rfl, Nat.le_of_ble_eq_true rfl⟩ rfl (fun H locs hP hD hS => ?_)
          refine lv_ldc (v := (-99999:Int32)) hx hb hown (hts _ kX6_runScript_2) dX6_runScript_89 ?_
          refine lv_istore (lv' := [(7, .int (-99999:Int32)), (0, .ref (a0 0)), (1, .int i1), (2, .long i2), (4, .int (1:Int32)), (5, .long e56.1)]) hx hb dX6_runScript_91 hl (by decide) rfl (fun ls hl => ?_)
          refine lv_iconst (v := (0:Int32)) hx hb dX6_runScript_93 (by decide) ?_
          refine lv_istore (lv' := [(8, .int (0:Int32)), (7, .int (-99999:Int32)), (0, .ref (a0 0)), (1, .int i1), (2, .long i2), (4, .int (1:Int32)), (5, .long e56.1)]) hx hb dX6_runScript_94 hl (by decide) rfl (fun ls hl => ?_)
          obtain ⟨e61, he61, hf⟩ := bd_some hf
          refine w_X6_runScript_96 (Q := _) S hK hA G a0 i1 i2 FU _ e61 he61 _ _ _ hP hD hS (lv_sub hl [2, 3, 4, 6, 1, 0] rfl) (fun H locs ls hP hD hS hl => ?_)
          refine lv_aload_n hx hb dX6_runScript_152 rfl (lv_at hl 0 rfl) ?_
          obtain ⟨q62, hq62, hf⟩ := bd_some hf
          refine g_callVv S (As := []) (gs' := [mdW G a0 q62.2]) (c_X6_bringBack l G a0 e61.2.2.2 hq62) (cwV 0 hts gX6_runScript_X6_bringBack rfl rfl rfl hd_X6_bringBack ⟨Nat.le_of_ble_eq_true rfl, Nat.le_of_ble_eq_true rfl⟩) hK hP hD hS hA (is := [0]) rfl rfl 0 rfl rfl rfl rfl hl.1 rfl (Nat.le_of_ble_eq_true rfl) dX6_runScript_153 ⟨Nat.le_of_ble_eq_true rfl, Nat.le_of_ble_eq_true rfl⟩ rfl (fun H locs hP hD hS => ?_)
          refine lv_iload hx hb dX6_runScript_156 (lv_at hl 4 rfl) ?_
          cases hf
          exact g_iret hx hb hr hlocks hP hS dX6_runScript_158
        · rw [if_neg c59] at hf
          refine lv_iconst (v := (0:Int32)) hx hb dX6_runScript_83 (by decide) ?_
          cases hf
          exact g_iret hx hb hr hlocks hP hS dX6_runScript_84
      · rw [if_neg c57] at hf
        refine lv_lload_n hx hb dX6_runScript_61 rfl (lv_at hl 2 rfl) ?_
        refine lv_lload hx hb dX6_runScript_62 (lv_at hl 4 rfl) ?_
        refine W.lcmp hx hb dX6_runScript_64 ?_
        refine lv_if_ge (tgt := 72) hx hb dX6_runScript_65 (by decide) (fun c63 => ?_) (fun c63 => ?_)
        · rw [if_pos c63] at hf
          refine lv_iconst (v := (1:Int32)) hx hb dX6_runScript_72 (by decide) ?_
          obtain ⟨u64, eu64, hf⟩ := lt_some hf
          refine g_put (ty := .int) (C := RX6) (T := TX6) (N := 15) (gs' := [mdW G a0 u64]) hx hb hts iwX6_runScript_X6 tyX6 tyX6_ok nmX6 hown hK hP hD hS 0 0 rfl rfl rfl 0 (Nat.le_of_ble_eq_true rfl) (hts _ kX6_runScript_1) (fun _ h9 => h9) rfl (by decide +kernel) rfl rfl (Nat.le_of_ble_eq_true rfl) dX6_runScript_73 (by rw [eu64]; rfl) (fun H locs hP hD hS => ?_)
          refine lv_aload_n hx hb dX6_runScript_76 rfl (lv_at hl 0 rfl) ?_
          refine g_get (C := RX6) (T := TX6) (N := 15) hx hb hts iwX6_runScript_X6 hown hK hP 0 0 rfl rfl rfl 0 (Nat.le_of_ble_eq_true rfl) (hts _ kX6_runScript_1) (fun _ h9 => h9) rfl dX6_runScript_77 ?_
          refine lv_if_le (tgt := 85) hx hb dX6_runScript_80 (by decide) (fun c65 => ?_) (fun c65 => ?_)
          · rw [if_pos c65] at hf
            refine lv_aload_n hx hb dX6_runScript_85 rfl (lv_at hl 0 rfl) ?_
            obtain ⟨q66, hq66, hf⟩ := bd_some hf
            refine g_callVv S (As := []) (gs' := [mdW G a0 q66.2]) (c_X6_putAside l G a0 u64 hq66) (cwV 0 hts gX6_runScript_X6_putAside rfl rfl rfl hd_X6_putAside ⟨Nat.le_of_ble_eq_true rfl, Nat.le_of_ble_eq_true rfl⟩) hK hP hD hS hA (is := [0]) rfl rfl 0 rfl rfl rfl rfl hl.1 rfl (Nat.le_of_ble_eq_true rfl) dX6_runScript_86 ⟨Nat.le_of_ble_eq_true rfl, Nat.le_of_ble_eq_true rfl⟩ rfl (fun H locs hP hD hS => ?_)
            refine lv_ldc (v := (-99999:Int32)) hx hb hown (hts _ kX6_runScript_2) dX6_runScript_89 ?_
            refine lv_istore (lv' := [(7, .int (-99999:Int32)), (0, .ref (a0 0)), (1, .int i1), (2, .long i2), (4, .int (1:Int32)), (5, .long e56.1)]) hx hb dX6_runScript_91 hl (by decide) rfl (fun ls hl => ?_)
            refine lv_iconst (v := (0:Int32)) hx hb dX6_runScript_93 (by decide) ?_
            refine lv_istore (lv' := [(8, .int (0:Int32)), (7, .int (-99999:Int32)), (0, .ref (a0 0)), (1, .int i1), (2, .long i2), (4, .int (1:Int32)), (5, .long e56.1)]) hx hb dX6_runScript_94 hl (by decide) rfl (fun ls hl => ?_)
            obtain ⟨e67, he67, hf⟩ := bd_some hf
            refine w_X6_runScript_96 (Q := _) S hK hA G a0 i1 i2 FU _ e67 he67 _ _ _ hP hD hS (lv_sub hl [2, 3, 4, 6, 1, 0] rfl) (fun H locs ls hP hD hS hl => ?_)
            refine lv_aload_n hx hb dX6_runScript_152 rfl (lv_at hl 0 rfl) ?_
            obtain ⟨q68, hq68, hf⟩ := bd_some hf
            refine g_callVv S (As := []) (gs' := [mdW G a0 q68.2]) (c_X6_bringBack l G a0 e67.2.2.2 hq68) (cwV 0 hts gX6_runScript_X6_bringBack rfl rfl rfl hd_X6_bringBack ⟨Nat.le_of_ble_eq_true rfl, Nat.le_of_ble_eq_true rfl⟩) hK hP hD hS hA (is := [0]) rfl rfl 0 rfl rfl rfl rfl hl.1 rfl (Nat.le_of_ble_eq_true rfl) dX6_runScript_153 ⟨Nat.le_of_ble_eq_true rfl, Nat.le_of_ble_eq_true rfl⟩ rfl (fun H locs hP hD hS => ?_)
            refine lv_iload hx hb dX6_runScript_156 (lv_at hl 4 rfl) ?_
            cases hf
            exact g_iret hx hb hr hlocks hP hS dX6_runScript_158
          · rw [if_neg c65] at hf
            refine lv_iconst (v := (0:Int32)) hx hb dX6_runScript_83 (by decide) ?_
            cases hf
            exact g_iret hx hb hr hlocks hP hS dX6_runScript_84
        · rw [if_neg c63] at hf
          refine lv_iconst (v := (0:Int32)) hx hb dX6_runScript_68 (by decide) ?_
          refine lv_goto (tgt := 73) hx hb dX6_runScript_69 (by decide) ?_
          obtain ⟨u69, eu69, hf⟩ := lt_some hf
          refine g_put (ty := .int) (C := RX6) (T := TX6) (N := 15) (gs' := [mdW G a0 u69]) hx hb hts iwX6_runScript_X6 tyX6 tyX6_ok nmX6 hown hK hP hD hS 0 0 rfl rfl rfl 0 (Nat.le_of_ble_eq_true rfl) (hts _ kX6_runScript_1) (fun _ h9 => h9) rfl (by decide +kernel) rfl rfl (Nat.le_of_ble_eq_true rfl) dX6_runScript_73 (by rw [eu69]; rfl) (fun H locs hP hD hS => ?_)
          refine lv_aload_n hx hb dX6_runScript_76 rfl (lv_at hl 0 rfl) ?_
          refine g_get (C := RX6) (T := TX6) (N := 15) hx hb hts iwX6_runScript_X6 hown hK hP 0 0 rfl rfl rfl 0 (Nat.le_of_ble_eq_true rfl) (hts _ kX6_runScript_1) (fun _ h9 => h9) rfl dX6_runScript_77 ?_
          refine lv_if_le (tgt := 85) hx hb dX6_runScript_80 (by decide) (fun c70 => ?_) (fun c70 => ?_)
          · rw [if_pos c70] at hf
            refine lv_aload_n hx hb dX6_runScript_85 rfl (lv_at hl 0 rfl) ?_
            obtain ⟨q71, hq71, hf⟩ := bd_some hf
            refine g_callVv S (As := []) (gs' := [mdW G a0 q71.2]) (c_X6_putAside l G a0 u69 hq71) (cwV 0 hts gX6_runScript_X6_putAside rfl rfl rfl hd_X6_putAside ⟨Nat.le_of_ble_eq_true rfl, Nat.le_of_ble_eq_true rfl⟩) hK hP hD hS hA (is := [0]) rfl rfl 0 rfl rfl rfl rfl hl.1 rfl (Nat.le_of_ble_eq_true rfl) dX6_runScript_86 ⟨Nat.le_of_ble_eq_true rfl, Nat.le_of_ble_eq_true rfl⟩ rfl (fun H locs hP hD hS => ?_)
            refine lv_ldc (v := (-99999:Int32)) hx hb hown (hts _ kX6_runScript_2) dX6_runScript_89 ?_
            refine lv_istore (lv' := [(7, .int (-99999:Int32)), (0, .ref (a0 0)), (1, .int i1), (2, .long i2), (4, .int (1:Int32)), (5, .long e56.1)]) hx hb dX6_runScript_91 hl (by decide) rfl (fun ls hl => ?_)
            refine lv_iconst (v := (0:Int32)) hx hb dX6_runScript_93 (by decide) ?_
            refine lv_istore (lv' := [(8, .int (0:Int32)), (7, .int (-99999:Int32)), (0, .ref (a0 0)), (1, .int i1), (2, .long i2), (4, .int (1:Int32)), (5, .long e56.1)]) hx hb dX6_runScript_94 hl (by decide) rfl (fun ls hl => ?_)
            obtain ⟨e72, he72, hf⟩ := bd_some hf
            refine w_X6_runScript_96 (Q := _) S hK hA G a0 i1 i2 FU _ e72 he72 _ _ _ hP hD hS (lv_sub hl [2, 3, 4, 6, 1, 0] rfl) (fun H locs ls hP hD hS hl => ?_)
            refine lv_aload_n hx hb dX6_runScript_152 rfl (lv_at hl 0 rfl) ?_
            obtain ⟨q73, hq73, hf⟩ := bd_some hf
            refine g_callVv S (As := []) (gs' := [mdW G a0 q73.2]) (c_X6_bringBack l G a0 e72.2.2.2 hq73) (cwV 0 hts gX6_runScript_X6_bringBack rfl rfl rfl hd_X6_bringBack ⟨Nat.le_of_ble_eq_true rfl, Nat.le_of_ble_eq_true rfl⟩) hK hP hD hS hA (is := [0]) rfl rfl 0 rfl rfl rfl rfl hl.1 rfl (Nat.le_of_ble_eq_true rfl) dX6_runScript_153 ⟨Nat.le_of_ble_eq_true rfl, Nat.le_of_ble_eq_true rfl⟩ rfl (fun H locs hP hD hS => ?_)
            refine lv_iload hx hb dX6_runScript_156 (lv_at hl 4 rfl) ?_
            cases hf
            exact g_iret hx hb hr hlocks hP hS dX6_runScript_158
          · rw [if_neg c70] at hf
            refine lv_iconst (v := (0:Int32)) hx hb dX6_runScript_83 (by decide) ?_
            cases hf
            exact g_iret hx hb hr hlocks hP hS dX6_runScript_84
theorem kX6_simulate_0 : Cond.fieldLink RX6 38 "SavingsCircleModel" "thrown" "I" ∈ wsX6_simulate := (List.mem_cons_of_mem _ (List.mem_append_left _ (List.mem_append_left _ (List.mem_of_getElem? (i := 0) rfl))))
theorem kX6_simulate_1 : Cond.fieldLink RX6 7 "SavingsCircleModel" "z" "[I" ∈ wsX6_simulate := (List.mem_cons_of_mem _ (List.mem_append_left _ (List.mem_append_left _ (List.mem_of_getElem? (i := 1) rfl))))
theorem kX6_simulate_2 : Cond.constantLong RX6 179 (6364136223846793005) ∈ wsX6_simulate := (List.mem_cons_of_mem _ (List.mem_append_left _ (List.mem_append_left _ (List.mem_of_getElem? (i := 2) rfl))))
theorem kX6_simulate_3 : Cond.constantLong RX6 181 (1442695040888963407) ∈ wsX6_simulate := (List.mem_cons_of_mem _ (List.mem_append_left _ (List.mem_append_left _ (List.mem_of_getElem? (i := 3) rfl))))
theorem iwX6_simulate_X6 : ∀ w ∈ wsX60, w ∈ wsX6_simulate := fun w h => (List.mem_cons_of_mem _ (List.mem_append_right _ h))
set_option maxHeartbeats 4000000 in
set_option maxRecDepth 100000 in
theorem w_X6_simulate_57 {p : Program} {l : Launch} {e : Env} {s : State} {m : MethodId} {args : Array Value} {below : List Frame} {meth : Method} {c : Code} {A : Nat → Prop} {Q : State → Prop} (S : Ev p s m args meth c cX6_simulate 10 (some .int) yX6_simulate.cls wsX6_simulate) {G : uG} (hK : kK G s) (hA : ∀ q, s.heap.size ≤ q → A q) (_ : uG) (a0 : Nat → Nat) (p3 : Int32) (p4 : Int32) (p7 : Int32) : ∀ (n : Nat) (z : (Int64 × Int32 × MdV)) (e1 : (Int64 × Int32 × MdV)), lp (b_X6_simulate_57 p3 p4 p7) n z = some e1 → ∀ (H : Heap) (locs : List Loc) (ls : Array Slot), gP G [mdW G a0 z.2.2] H → gD A [mdW G a0 z.2.2] → va_S A s.heap H locs → lv_has ls 10 [(0, .ref (a0 0)), (3, .int p3), (4, .int p4), (5, .long z.1), (7, .int p7), (8, .int z.2.1)] → (∀ (H : Heap) (locs : List Loc) (ls : Array Slot), gP G [mdW G a0 e1.2.2] H → gD A [mdW G a0 e1.2.2] → va_S A s.heap H locs → lv_has ls 10 [(0, .ref (a0 0)), (3, .int p3), (4, .int p4), (5, .long e1.1), (7, .int p7), (8, .int e1.2.1)] → W p l e ({ frames := 3, cells := 0, slots := 0, locals := 70 } : Room) s m args below meth c H locs 0 0 Q (F0 m 175 ls [])) → W p l e ({ frames := 3, cells := 0, slots := 0, locals := 70 } : Room) s m args below meth c H locs 0 0 Q (F0 m 57 ls []) := by
  obtain ⟨hx, hb, hml, hown, hts, hr, hlocks⟩ := id S
  intro n
  induction n with
  | zero => intro z e1 h; cases h
  | succ n ih =>
    intro z e1 hlp H locs ls hP hD hS hl K
    obtain ⟨z9, hf, hz⟩ := lp_s hlp
    unfold b_X6_simulate_57 at hf
    refine lv_iload hx hb dX6_simulate_57 (lv_at hl 5 rfl) ?_
    refine lv_aload_n hx hb dX6_simulate_59 rfl (lv_at hl 0 rfl) ?_
    refine g_get (C := RX6) (T := TX6) (N := 15) hx hb hts iwX6_simulate_X6 hown hK hP 0 0 rfl rfl rfl 1 (Nat.le_of_ble_eq_true rfl) (hts _ kX6_simulate_1) (fun _ h9 => h9) rfl dX6_simulate_60 ?_
    refine lv_iconst (v := (0:Int32)) hx hb dX6_simulate_63 (by decide) ?_
    obtain ⟨h8, hf⟩ := gi_some hf
    refine g_iald hx hb hK hP 0 1 0 rfl rfl rfl h8 dX6_simulate_64 ?_
    refine lv_icmp_ge (tgt := 175) hx hb dX6_simulate_65 (by decide) (fun c9 => ?_) (fun c9 => ?_)
    · rw [if_pos c9] at hf
      have he := lz_r hf hz
      subst he
      exact K H locs ls hP hD hS (lv_sub hl [0, 1, 2, 3, 4, 5] rfl)
    · rw [if_neg c9] at hf
      refine lv_lload hx hb dX6_simulate_68 (lv_at hl 3 rfl) ?_
      refine lv_ldc2 (v := (6364136223846793005:Int64)) hx hb hown (hts _ kX6_simulate_2) dX6_simulate_70 ?_
      refine lv_lmul hx hb dX6_simulate_73 ?_
      refine lv_ldc2 (v := (1442695040888963407:Int64)) hx hb hown (hts _ kX6_simulate_3) dX6_simulate_74 ?_
      refine lv_ladd hx hb dX6_simulate_77 ?_
      obtain ⟨x10, ex10, hf⟩ := lt_some hf
      refine lv_nml ex10 ?_
      refine lv_lstore (lv' := [(5, .long x10), (0, .ref (a0 0)), (3, .int p3), (4, .int p4), (7, .int p7), (8, .int z.2.1)]) hx hb dX6_simulate_78 hl (by decide) rfl (fun ls hl => ?_)
      refine lv_lload hx hb dX6_simulate_80 (lv_at hl 0 rfl) ?_
      refine lv_bipush (v := (33:Int32)) hx hb dX6_simulate_82 (by decide) ?_
      refine lv_lushr (v := (x10.toUInt64 >>> ((33:Int32).toInt64.toUInt64 &&& Int64.toUInt64 63)).toInt64) hx hb dX6_simulate_84 rfl ?_
      obtain ⟨x11, ex11, hf⟩ := lt_some hf
      refine lv_nml ex11 ?_
      refine lv_l2i (v := x11.toInt32) hx hb dX6_simulate_85 rfl ?_
      obtain ⟨x12, ex12, hf⟩ := lt_some hf
      refine lv_nmi ex12 ?_
      refine lv_istore (lv' := [(9, .int x12), (5, .long x10), (0, .ref (a0 0)), (3, .int p3), (4, .int p4), (7, .int p7), (8, .int z.2.1)]) hx hb dX6_simulate_86 hl (by decide) rfl (fun ls hl => ?_)
      refine lv_aload_n hx hb dX6_simulate_88 rfl (lv_at hl 2 rfl) ?_
      refine g_get (C := RX6) (T := TX6) (N := 15) hx hb hts iwX6_simulate_X6 hown hK hP 0 0 rfl rfl rfl 1 (Nat.le_of_ble_eq_true rfl) (hts _ kX6_simulate_1) (fun _ h9 => h9) rfl dX6_simulate_89 ?_
      refine lv_bipush (v := (45:Int32)) hx hb dX6_simulate_92 (by decide) ?_
      refine lv_iload hx hb dX6_simulate_94 (lv_at hl 6 rfl) ?_
      refine lv_iadd hx hb dX6_simulate_96 ?_
      obtain ⟨h13, hf⟩ := gi_some hf
      refine g_iald hx hb hK hP 0 1 0 rfl rfl rfl h13 dX6_simulate_97 ?_
      obtain ⟨x14, ex14, hf⟩ := lt_some hf
      refine lv_nmi ex14 ?_
      refine lv_iconst (v := (1:Int32)) hx hb dX6_simulate_98 (by decide) ?_
      refine lv_icmp_ne (tgt := 169) hx hb dX6_simulate_99 (by decide) (fun c15 => ?_) (fun c15 => ?_)
      · rw [if_neg c15] at hf
        obtain ⟨x16, ex16, hf⟩ := lt_some hf
        refine lv_iinc (v := x16) (lv' := [(8, .int x16), (9, .int x12), (5, .long x10), (0, .ref (a0 0)), (3, .int p3), (4, .int p4), (7, .int p7)]) hx hb dX6_simulate_169 hl (k := 6) rfl (by rw [ex16]; rfl) (by decide) rfl (fun ls hl => ?_)
        refine lv_goto (tgt := 57) hx hb dX6_simulate_172 (by decide) ?_
        exact ih _ e1 (lz_l hf hz) H locs ls hP hD hS (lv_sub hl [3, 4, 5, 2, 6, 0] rfl) K
      · rw [if_pos c15] at hf
        refine lv_aload_n hx hb dX6_simulate_102 rfl (lv_at hl 2 rfl) ?_
        refine g_get (C := RX6) (T := TX6) (N := 15) hx hb hts iwX6_simulate_X6 hown hK hP 0 0 rfl rfl rfl 1 (Nat.le_of_ble_eq_true rfl) (hts _ kX6_simulate_1) (fun _ h9 => h9) rfl dX6_simulate_103 ?_
        refine lv_bipush (v := (29:Int32)) hx hb dX6_simulate_106 (by decide) ?_
        refine lv_iload hx hb dX6_simulate_108 (lv_at hl 6 rfl) ?_
        refine lv_iadd hx hb dX6_simulate_110 ?_
        refine lv_iload hx hb dX6_simulate_111 (lv_at hl 0 rfl) ?_
        refine lv_bipush (v := (8:Int32)) hx hb dX6_simulate_113 (by decide) ?_
        obtain ⟨h17, hf⟩ := gz_some hf
        refine lv_irem hx hb dX6_simulate_115 h17 ?_
        refine lv_if_ne (tgt := 123) hx hb dX6_simulate_116 (by decide) (fun c18 => ?_) (fun c18 => ?_)
        · rw [if_neg c18] at hf
          refine lv_iconst (v := (0:Int32)) hx hb dX6_simulate_123 (by decide) ?_
          obtain ⟨h19, hf⟩ := gi_some hf
          obtain ⟨u20, eu20, hf⟩ := lt_some hf
          refine g_iast (gs' := [mdW G a0 u20]) hx hb hK hP hD hS 0 1 0 rfl rfl rfl h19 dX6_simulate_124 (by rw [eu20]; rfl) (fun H locs hP hD hS => ?_)
          refine lv_aload_n hx hb dX6_simulate_125 rfl (lv_at hl 2 rfl) ?_
          refine g_get (C := RX6) (T := TX6) (N := 15) hx hb hts iwX6_simulate_X6 hown hK hP 0 0 rfl rfl rfl 1 (Nat.le_of_ble_eq_true rfl) (hts _ kX6_simulate_1) (fun _ h9 => h9) rfl dX6_simulate_126 ?_
          refine lv_bipush (v := (21:Int32)) hx hb dX6_simulate_129 (by decide) ?_
          refine lv_iload hx hb dX6_simulate_131 (lv_at hl 6 rfl) ?_
          refine lv_iadd hx hb dX6_simulate_133 ?_
          refine lv_aload_n hx hb dX6_simulate_134 rfl (lv_at hl 2 rfl) ?_
          refine g_get (C := RX6) (T := TX6) (N := 15) hx hb hts iwX6_simulate_X6 hown hK hP 0 0 rfl rfl rfl 1 (Nat.le_of_ble_eq_true rfl) (hts _ kX6_simulate_1) (fun _ h9 => h9) rfl dX6_simulate_135 ?_
          refine lv_bipush (v := (37:Int32)) hx hb dX6_simulate_138 (by decide) ?_
          refine lv_iload hx hb dX6_simulate_140 (lv_at hl 6 rfl) ?_
          refine lv_iadd hx hb dX6_simulate_142 ?_
          obtain ⟨h21, hf⟩ := gi_some hf
          refine g_iald hx hb hK hP 0 1 0 rfl rfl rfl h21 dX6_simulate_143 ?_
          refine lv_if_ne (tgt := 158) hx hb dX6_simulate_144 (by decide) (fun c22 => ?_) (fun c22 => ?_)
          · rw [if_neg c22] at hf
            refine lv_aload_n hx hb dX6_simulate_158 rfl (lv_at hl 2 rfl) ?_
            refine g_get (C := RX6) (T := TX6) (N := 15) hx hb hts iwX6_simulate_X6 hown hK hP 0 0 rfl rfl rfl 1 (Nat.le_of_ble_eq_true rfl) (hts _ kX6_simulate_1) (fun _ h9 => h9) rfl dX6_simulate_159 ?_
            refine lv_bipush (v := (21:Int32)) hx hb dX6_simulate_162 (by decide) ?_
            refine lv_iload hx hb dX6_simulate_164 (lv_at hl 6 rfl) ?_
            refine lv_iadd hx hb dX6_simulate_166 ?_
            obtain ⟨h23, hf⟩ := gi_some hf
            refine g_iald hx hb hK hP 0 1 0 rfl rfl rfl h23 dX6_simulate_167 ?_
            obtain ⟨h24, hf⟩ := gi_some hf
            obtain ⟨u25, eu25, hf⟩ := lt_some hf
            refine g_iast (gs' := [mdW G a0 u25]) hx hb hK hP hD hS 0 1 0 rfl rfl rfl h24 dX6_simulate_168 (by rw [eu25]; rfl) (fun H locs hP hD hS => ?_)
            obtain ⟨x26, ex26, hf⟩ := lt_some hf
            refine lv_iinc (v := x26) (lv' := [(8, .int x26), (9, .int x12), (5, .long x10), (0, .ref (a0 0)), (3, .int p3), (4, .int p4), (7, .int p7)]) hx hb dX6_simulate_169 hl (k := 6) rfl (by rw [ex26]; rfl) (by decide) rfl (fun ls hl => ?_)
            refine lv_goto (tgt := 57) hx hb dX6_simulate_172 (by decide) ?_
            exact ih _ e1 (lz_l hf hz) H locs ls hP hD hS (lv_sub hl [3, 4, 5, 2, 6, 0] rfl) K
          · rw [if_pos c22] at hf
            refine lv_iload hx hb dX6_simulate_147 (lv_at hl 0 rfl) ?_
            refine lv_bipush (v := (8:Int32)) hx hb dX6_simulate_149 (by decide) ?_
            obtain ⟨h27, hf⟩ := gz_some hf
            refine lv_idiv hx hb dX6_simulate_151 h27 ?_
            refine lv_bipush (v := (40:Int32)) hx hb dX6_simulate_152 (by decide) ?_
            obtain ⟨h28, hf⟩ := gz_some hf
            refine lv_irem hx hb dX6_simulate_154 h28 ?_
            obtain ⟨x29, ex29, hf⟩ := lt_some hf
            refine lv_nmi ex29 ?_
            refine lv_goto (tgt := 168) hx hb dX6_simulate_155 (by decide) ?_
            obtain ⟨h30, hf⟩ := gi_some hf
            obtain ⟨u31, eu31, hf⟩ := lt_some hf
            refine g_iast (gs' := [mdW G a0 u31]) hx hb hK hP hD hS 0 1 0 rfl rfl rfl h30 dX6_simulate_168 (by rw [eu31]; rfl) (fun H locs hP hD hS => ?_)
            obtain ⟨x32, ex32, hf⟩ := lt_some hf
            refine lv_iinc (v := x32) (lv' := [(8, .int x32), (9, .int x12), (5, .long x10), (0, .ref (a0 0)), (3, .int p3), (4, .int p4), (7, .int p7)]) hx hb dX6_simulate_169 hl (k := 6) rfl (by rw [ex32]; rfl) (by decide) rfl (fun ls hl => ?_)
            refine lv_goto (tgt := 57) hx hb dX6_simulate_172 (by decide) ?_
            exact ih _ e1 (lz_l hf hz) H locs ls hP hD hS (lv_sub hl [3, 4, 5, 2, 6, 0] rfl) K
        · rw [if_pos c18] at hf
          refine lv_iconst (v := (1:Int32)) hx hb dX6_simulate_119 (by decide) ?_
          refine lv_goto (tgt := 124) hx hb dX6_simulate_120 (by decide) ?_
          obtain ⟨h33, hf⟩ := gi_some hf
          obtain ⟨u34, eu34, hf⟩ := lt_some hf
          refine g_iast (gs' := [mdW G a0 u34]) hx hb hK hP hD hS 0 1 0 rfl rfl rfl h33 dX6_simulate_124 (by rw [eu34]; rfl) (fun H locs hP hD hS => ?_)
          refine lv_aload_n hx hb dX6_simulate_125 rfl (lv_at hl 2 rfl) ?_
          refine g_get (C := RX6) (T := TX6) (N := 15) hx hb hts iwX6_simulate_X6 hown hK hP 0 0 rfl rfl rfl 1 (Nat.le_of_ble_eq_true rfl) (hts _ kX6_simulate_1) (fun _ h9 => h9) rfl dX6_simulate_126 ?_
          refine lv_bipush (v := (21:Int32)) hx hb dX6_simulate_129 (by decide) ?_
          refine lv_iload hx hb dX6_simulate_131 (lv_at hl 6 rfl) ?_
          refine lv_iadd hx hb dX6_simulate_133 ?_
          refine lv_aload_n hx hb dX6_simulate_134 rfl (lv_at hl 2 rfl) ?_
          refine g_get (C := RX6) (T := TX6) (N := 15) hx hb hts iwX6_simulate_X6 hown hK hP 0 0 rfl rfl rfl 1 (Nat.le_of_ble_eq_true rfl) (hts _ kX6_simulate_1) (fun _ h9 => h9) rfl dX6_simulate_135 ?_
          refine lv_bipush (v := (37:Int32)) hx hb dX6_simulate_138 (by decide) ?_
          refine lv_iload hx hb dX6_simulate_140 (lv_at hl 6 rfl) ?_
          refine lv_iadd hx hb dX6_simulate_142 ?_
          obtain ⟨h35, hf⟩ := gi_some hf
          refine g_iald hx hb hK hP 0 1 0 rfl rfl rfl h35 dX6_simulate_143 ?_
          refine lv_if_ne (tgt := 158) hx hb dX6_simulate_144 (by decide) (fun c36 => ?_) (fun c36 => ?_)
          · rw [if_neg c36] at hf
            refine lv_aload_n hx hb dX6_simulate_158 rfl (lv_at hl 2 rfl) ?_
            refine g_get (C := RX6) (T := TX6) (N := 15) hx hb hts iwX6_simulate_X6 hown hK hP 0 0 rfl rfl rfl 1 (Nat.le_of_ble_eq_true rfl) (hts _ kX6_simulate_1) (fun _ h9 => h9) rfl dX6_simulate_159 ?_
            refine lv_bipush (v := (21:Int32)) hx hb dX6_simulate_162 (by decide) ?_
            refine lv_iload hx hb dX6_simulate_164 (lv_at hl 6 rfl) ?_
            refine lv_iadd hx hb dX6_simulate_166 ?_
            obtain ⟨h37, hf⟩ := gi_some hf
            refine g_iald hx hb hK hP 0 1 0 rfl rfl rfl h37 dX6_simulate_167 ?_
            obtain ⟨h38, hf⟩ := gi_some hf
            obtain ⟨u39, eu39, hf⟩ := lt_some hf
            refine g_iast (gs' := [mdW G a0 u39]) hx hb hK hP hD hS 0 1 0 rfl rfl rfl h38 dX6_simulate_168 (by rw [eu39]; rfl) (fun H locs hP hD hS => ?_)
            obtain ⟨x40, ex40, hf⟩ := lt_some hf
            refine lv_iinc (v := x40) (lv' := [(8, .int x40), (9, .int x12), (5, .long x10), (0, .ref (a0 0)), (3, .int p3), (4, .int p4), (7, .int p7)]) hx hb dX6_simulate_169 hl (k := 6) rfl (by rw [ex40]; rfl) (by decide) rfl (fun ls hl => ?_)
            refine lv_goto (tgt := 57) hx hb dX6_simulate_172 (by decide) ?_
            exact ih _ e1 (lz_l hf hz) H locs ls hP hD hS (lv_sub hl [3, 4, 5, 2, 6, 0] rfl) K
          · rw [if_pos c36] at hf
            refine lv_iload hx hb dX6_simulate_147 (lv_at hl 0 rfl) ?_
            refine lv_bipush (v := (8:Int32)) hx hb dX6_simulate_149 (by decide) ?_
            obtain ⟨h41, hf⟩ := gz_some hf
            refine lv_idiv hx hb dX6_simulate_151 h41 ?_
            refine lv_bipush (v := (40:Int32)) hx hb dX6_simulate_152 (by decide) ?_
            obtain ⟨h42, hf⟩ := gz_some hf
            refine lv_irem hx hb dX6_simulate_154 h42 ?_
            obtain ⟨x43, ex43, hf⟩ := lt_some hf
            refine lv_nmi ex43 ?_
            refine lv_goto (tgt := 168) hx hb dX6_simulate_155 (by decide) ?_
            obtain ⟨h44, hf⟩ := gi_some hf
            obtain ⟨u45, eu45, hf⟩ := lt_some hf
            refine g_iast (gs' := [mdW G a0 u45]) hx hb hK hP hD hS 0 1 0 rfl rfl rfl h44 dX6_simulate_168 (by rw [eu45]; rfl) (fun H locs hP hD hS => ?_)
            obtain ⟨x46, ex46, hf⟩ := lt_some hf
            refine lv_iinc (v := x46) (lv' := [(8, .int x46), (9, .int x12), (5, .long x10), (0, .ref (a0 0)), (3, .int p3), (4, .int p4), (7, .int p7)]) hx hb dX6_simulate_169 hl (k := 6) rfl (by rw [ex46]; rfl) (by decide) rfl (fun ls hl => ?_)
            refine lv_goto (tgt := 57) hx hb dX6_simulate_172 (by decide) ?_
            exact ih _ e1 (lz_l hf hz) H locs ls hP hD hS (lv_sub hl [3, 4, 5, 2, 6, 0] rfl) K
set_option maxHeartbeats 4000000 in
set_option maxRecDepth 100000 in
theorem w_X6_simulate_48 {p : Program} {l : Launch} {e : Env} {s : State} {m : MethodId} {args : Array Value} {below : List Frame} {meth : Method} {c : Code} {A : Nat → Prop} {Q : State → Prop} (S : Ev p s m args meth c cX6_simulate 10 (some .int) yX6_simulate.cls wsX6_simulate) {G : uG} (hK : kK G s) (hA : ∀ q, s.heap.size ≤ q → A q) (_ : uG) (a0 : Nat → Nat) (p3 : Int32) (p4 : Int32) : ∀ (n : Nat) (z : (Int64 × Int32 × MdV)) (e1 : (Int64 × Int32 × MdV)), lp (b_X6_simulate_48 p3 p4) n z = some e1 → ∀ (H : Heap) (locs : List Loc) (ls : Array Slot), gP G [mdW G a0 z.2.2] H → gD A [mdW G a0 z.2.2] → va_S A s.heap H locs → lv_has ls 10 [(0, .ref (a0 0)), (3, .int p3), (4, .int p4), (5, .long z.1), (7, .int z.2.1)] → (∀ (H : Heap) (locs : List Loc) (ls : Array Slot), gP G [mdW G a0 e1.2.2] H → gD A [mdW G a0 e1.2.2] → va_S A s.heap H locs → lv_has ls 10 [(0, .ref (a0 0)), (3, .int p3), (4, .int p4), (5, .long e1.1), (7, .int e1.2.1)] → W p l e ({ frames := 3, cells := 0, slots := 0, locals := 70 } : Room) s m args below meth c H locs 0 0 Q (F0 m 193 ls [])) → W p l e ({ frames := 3, cells := 0, slots := 0, locals := 70 } : Room) s m args below meth c H locs 0 0 Q (F0 m 48 ls []) := by
  obtain ⟨hx, hb, hml, hown, hts, hr, hlocks⟩ := id S
  intro n
  induction n with
  | zero => intro z e1 h; cases h
  | succ n ih =>
    intro z e1 hlp H locs ls hP hD hS hl K
    obtain ⟨z9, hf, hz⟩ := lp_s hlp
    unfold b_X6_simulate_48 at hf
    refine lv_iload hx hb dX6_simulate_48 (lv_at hl 4 rfl) ?_
    refine lv_iload_n hx hb dX6_simulate_50 rfl (lv_at hl 1 rfl) ?_
    refine lv_icmp_ge (tgt := 193) hx hb dX6_simulate_51 (by decide) (fun c7 => ?_) (fun c7 => ?_)
    · rw [if_pos c7] at hf
      have he := lz_r hf hz
      subst he
      exact K H locs ls hP hD hS (lv_sub hl [0, 1, 2, 3, 4] rfl)
    · rw [if_neg c7] at hf
      refine lv_iconst (v := (0:Int32)) hx hb dX6_simulate_54 (by decide) ?_
      refine lv_istore (lv' := [(8, .int (0:Int32)), (0, .ref (a0 0)), (3, .int p3), (4, .int p4), (5, .long z.1), (7, .int z.2.1)]) hx hb dX6_simulate_55 hl (by decide) rfl (fun ls hl => ?_)
      obtain ⟨e47, he47, hf⟩ := bd_some hf
      refine w_X6_simulate_57 (Q := _) S hK hA G a0 p3 p4 z.2.1 FU _ e47 he47 _ _ _ hP hD hS (lv_sub hl [1, 2, 3, 4, 5, 0] rfl) (fun H locs ls hP hD hS hl => ?_)
      refine lv_aload_n hx hb dX6_simulate_175 rfl (lv_at hl 0 rfl) ?_
      obtain ⟨q48, hq48, hf⟩ := bd_some hf
      refine g_callVi S (As := []) (gs' := [mdW G a0 e47.2.2]) (c_X6_canGo l G a0 e47.2.2 hq48) (cwV 0 hts gX6_simulate_X6_canGo rfl rfl rfl hd_X6_canGo ⟨Nat.le_of_ble_eq_true rfl, Nat.le_of_ble_eq_true rfl⟩) hK hP hD hS hA (is := [0]) rfl rfl 0 rfl rfl rfl rfl hl.1 rfl (Nat.le_of_ble_eq_true rfl) dX6_simulate_176 ⟨Nat.le_of_ble_eq_true rfl, Nat.le_of_ble_eq_true rfl⟩ rfl (fun H locs hP hD hS => ?_)
      refine lv_if_eq (tgt := 187) hx hb dX6_simulate_179 (by decide) (fun c49 => ?_) (fun c49 => ?_)
      · rw [if_pos c49] at hf
        obtain ⟨x50, ex50, hf⟩ := lt_some hf
        refine lv_iinc (v := x50) (lv' := [(7, .int x50), (0, .ref (a0 0)), (3, .int p3), (4, .int p4), (5, .long e47.1), (8, .int e47.2.1)]) hx hb dX6_simulate_187 hl (k := 4) rfl (by rw [ex50]; rfl) (by decide) rfl (fun ls hl => ?_)
        refine lv_goto (tgt := 48) hx hb dX6_simulate_190 (by decide) ?_
        exact ih _ e1 (lz_l hf hz) H locs ls hP hD hS (lv_sub hl [1, 2, 3, 4, 0] rfl) K
      · rw [if_neg c49] at hf
        refine lv_aload_n hx hb dX6_simulate_182 rfl (lv_at hl 0 rfl) ?_
        obtain ⟨q51, hq51, hf⟩ := bd_some hf
        refine g_callVi S (As := []) (gs' := [mdW G a0 q51.2]) (c_X6_goMonth l G a0 e47.2.2 hq51) (cwV 0 hts gX6_simulate_X6_goMonth rfl rfl rfl hd_X6_goMonth ⟨Nat.le_of_ble_eq_true rfl, Nat.le_of_ble_eq_true rfl⟩) hK hP hD hS hA (is := [0]) rfl rfl 0 rfl rfl rfl rfl hl.1 rfl (Nat.le_of_ble_eq_true rfl) dX6_simulate_183 ⟨Nat.le_of_ble_eq_true rfl, Nat.le_of_ble_eq_true rfl⟩ rfl (fun H locs hP hD hS => ?_)
        refine lv_pop hx hb dX6_simulate_186 rfl ?_
        obtain ⟨x52, ex52, hf⟩ := lt_some hf
        refine lv_iinc (v := x52) (lv' := [(7, .int x52), (0, .ref (a0 0)), (3, .int p3), (4, .int p4), (5, .long e47.1), (8, .int e47.2.1)]) hx hb dX6_simulate_187 hl (k := 4) rfl (by rw [ex52]; rfl) (by decide) rfl (fun ls hl => ?_)
        refine lv_goto (tgt := 48) hx hb dX6_simulate_190 (by decide) ?_
        exact ih _ e1 (lz_l hf hz) H locs ls hP hD hS (lv_sub hl [1, 2, 3, 4, 0] rfl) K
set_option maxHeartbeats 4000000 in
set_option maxRecDepth 100000 in
theorem c_X6_simulate (l : Launch) (G : uG) (a0 : Nat → Nat) (v0 : MdV) (i1 : Int64) (i3 : Int32) {q : Int32 × (MdV)} (hf : f_X6_simulate v0 i1 i3 = some q) : mQ l yX6_simulate wsX6_simulate ({ frames := 3, cells := 0, slots := 0, locals := 70 } : Room) G [.ref (a0 0), .long i1, .int i3] [mdW G a0 v0] [mdW G a0 q.2] (qI G [mdW G a0 q.2] q.1) := by
  unfold f_X6_simulate at hf
  refine m_of (cc := cX6_simulate) (maxL := 10) (ret := (some .int)) (by decide) rfl rfl (Nat.le_of_ble_eq_true rfl) ?_
  intro p e s m args below meth c A ls S hK hA hP hD hS hl
  obtain ⟨hx, hb, hml, hown, hts, hr, hlocks⟩ := id S
  have hl : lv_has ls 10 [(0, .ref (a0 0)), (1, .long i1), (3, .int i3)] := hl
  refine lv_aload_n hx hb dX6_simulate_0 rfl (lv_at hl 0 rfl) ?_
  refine lv_iload_n hx hb dX6_simulate_1 rfl (lv_at hl 2 rfl) ?_
  refine lv_iconst (v := (1:Int32)) hx hb dX6_simulate_2 (by decide) ?_
  refine lv_bipush (v := (40:Int32)) hx hb dX6_simulate_3 (by decide) ?_
  obtain ⟨q1, hq1, hf⟩ := bd_some hf
  refine g_callSi S (As := [.int i3, .int (1:Int32), .int (40:Int32)]) (gs' := [mdW G a0 v0]) (c_X6_in l G i3 (1:Int32) (40:Int32) hq1) (va_cwS 3 hts gX6_simulate_X6_in rfl rfl rfl hd_X6_in.2 ⟨Nat.le_of_ble_eq_true rfl, Nat.le_of_ble_eq_true rfl⟩) hK hP hD hS hA (is := []) rfl rfl rfl hl.1 rfl (Nat.le_of_ble_eq_true rfl) dX6_simulate_5 ⟨Nat.le_of_ble_eq_true rfl, Nat.le_of_ble_eq_true rfl⟩ rfl (fun H locs hP hD hS => ?_)
  refine lv_if_eq (tgt := 15) hx hb dX6_simulate_8 (by decide) (fun c2 => ?_) (fun c2 => ?_)
  · rw [if_pos c2] at hf
    refine lv_iconst (v := (1:Int32)) hx hb dX6_simulate_15 (by decide) ?_
    obtain ⟨u3, eu3, hf⟩ := lt_some hf
    refine g_put (ty := .int) (C := RX6) (T := TX6) (N := 15) (gs' := [mdW G a0 u3]) hx hb hts iwX6_simulate_X6 tyX6 tyX6_ok nmX6 hown hK hP hD hS 0 0 rfl rfl rfl 0 (Nat.le_of_ble_eq_true rfl) (hts _ kX6_simulate_0) (fun _ h9 => h9) rfl (by decide +kernel) rfl rfl (Nat.le_of_ble_eq_true rfl) dX6_simulate_16 (by rw [eu3]; rfl) (fun H locs hP hD hS => ?_)
    refine lv_aload_n hx hb dX6_simulate_19 rfl (lv_at hl 0 rfl) ?_
    refine g_get (C := RX6) (T := TX6) (N := 15) hx hb hts iwX6_simulate_X6 hown hK hP 0 0 rfl rfl rfl 0 (Nat.le_of_ble_eq_true rfl) (hts _ kX6_simulate_0) (fun _ h9 => h9) rfl dX6_simulate_20 ?_
    refine lv_if_le (tgt := 28) hx hb dX6_simulate_23 (by decide) (fun c4 => ?_) (fun c4 => ?_)
    · rw [if_pos c4] at hf
      refine lv_aload_n hx hb dX6_simulate_28 rfl (lv_at hl 0 rfl) ?_
      obtain ⟨q5, hq5, hf⟩ := bd_some hf
      refine g_callVv S (As := []) (gs' := [mdW G a0 q5.2]) (c_X6_putAside l G a0 u3 hq5) (cwV 0 hts gX6_simulate_X6_putAside rfl rfl rfl hd_X6_putAside ⟨Nat.le_of_ble_eq_true rfl, Nat.le_of_ble_eq_true rfl⟩) hK hP hD hS hA (is := [0]) rfl rfl 0 rfl rfl rfl rfl hl.1 rfl (Nat.le_of_ble_eq_true rfl) dX6_simulate_29 ⟨Nat.le_of_ble_eq_true rfl, Nat.le_of_ble_eq_true rfl⟩ rfl (fun H locs hP hD hS => ?_)
      refine lv_aload_n hx hb dX6_simulate_32 rfl (lv_at hl 0 rfl) ?_
      refine lv_bipush (v := (85:Int32)) hx hb dX6_simulate_33 (by decide) ?_
      refine lv_bipush (v := (8:Int32)) hx hb dX6_simulate_35 (by decide) ?_
      obtain ⟨q6, hq6, hf⟩ := bd_some hf
      refine g_callVi S (As := [.int (85:Int32), .int (8:Int32)]) (gs' := [mdW G a0 q5.2]) (c_X6_sumOf l G a0 q5.2 (85:Int32) (8:Int32) hq6) (cwV 2 hts gX6_simulate_X6_sumOf rfl rfl rfl hd_X6_sumOf ⟨Nat.le_of_ble_eq_true rfl, Nat.le_of_ble_eq_true rfl⟩) hK hP hD hS hA (is := [0]) rfl rfl 0 rfl rfl rfl rfl hl.1 rfl (Nat.le_of_ble_eq_true rfl) dX6_simulate_37 ⟨Nat.le_of_ble_eq_true rfl, Nat.le_of_ble_eq_true rfl⟩ rfl (fun H locs hP hD hS => ?_)
      refine lv_istore (lv' := [(4, .int q6.1), (0, .ref (a0 0)), (1, .long i1), (3, .int i3)]) hx hb dX6_simulate_40 hl (by decide) rfl (fun ls hl => ?_)
      refine lv_lload_n hx hb dX6_simulate_42 rfl (lv_at hl 2 rfl) ?_
      refine lv_lstore (lv' := [(5, .long i1), (4, .int q6.1), (0, .ref (a0 0)), (1, .long i1), (3, .int i3)]) hx hb dX6_simulate_43 hl (by decide) rfl (fun ls hl => ?_)
      refine lv_iconst (v := (0:Int32)) hx hb dX6_simulate_45 (by decide) ?_
      refine lv_istore (lv' := [(7, .int (0:Int32)), (5, .long i1), (4, .int q6.1), (0, .ref (a0 0)), (1, .long i1), (3, .int i3)]) hx hb dX6_simulate_46 hl (by decide) rfl (fun ls hl => ?_)
      obtain ⟨e53, he53, hf⟩ := bd_some hf
      refine w_X6_simulate_48 (Q := _) S hK hA G a0 i3 q6.1 FU _ e53 he53 _ _ _ hP hD hS (lv_sub hl [3, 5, 2, 1, 0] rfl) (fun H locs ls hP hD hS hl => ?_)
      refine lv_aload_n hx hb dX6_simulate_193 rfl (lv_at hl 0 rfl) ?_
      refine lv_bipush (v := (85:Int32)) hx hb dX6_simulate_194 (by decide) ?_
      refine lv_bipush (v := (8:Int32)) hx hb dX6_simulate_196 (by decide) ?_
      obtain ⟨q54, hq54, hf⟩ := bd_some hf
      refine g_callVi S (As := [.int (85:Int32), .int (8:Int32)]) (gs' := [mdW G a0 e53.2.2]) (c_X6_sumOf l G a0 e53.2.2 (85:Int32) (8:Int32) hq54) (cwV 2 hts gX6_simulate_X6_sumOf rfl rfl rfl hd_X6_sumOf ⟨Nat.le_of_ble_eq_true rfl, Nat.le_of_ble_eq_true rfl⟩) hK hP hD hS hA (is := [0]) rfl rfl 0 rfl rfl rfl rfl hl.1 rfl (Nat.le_of_ble_eq_true rfl) dX6_simulate_198 ⟨Nat.le_of_ble_eq_true rfl, Nat.le_of_ble_eq_true rfl⟩ rfl (fun H locs hP hD hS => ?_)
      refine lv_iload hx hb dX6_simulate_201 (lv_at hl 2 rfl) ?_
      refine lv_isub hx hb dX6_simulate_203 ?_
      obtain ⟨x55, ex55, hf⟩ := lt_some hf
      refine lv_nmi ex55 ?_
      refine lv_istore (lv' := [(7, .int x55), (0, .ref (a0 0)), (3, .int i3), (4, .int q6.1), (5, .long e53.1)]) hx hb dX6_simulate_204 hl (by decide) rfl (fun ls hl => ?_)
      refine lv_aload_n hx hb dX6_simulate_206 rfl (lv_at hl 1 rfl) ?_
      refine lv_bipush (v := (37:Int32)) hx hb dX6_simulate_207 (by decide) ?_
      refine lv_bipush (v := (8:Int32)) hx hb dX6_simulate_209 (by decide) ?_
      obtain ⟨q56, hq56, hf⟩ := bd_some hf
      refine g_callVi S (As := [.int (37:Int32), .int (8:Int32)]) (gs' := [mdW G a0 e53.2.2]) (c_X6_sumOf l G a0 e53.2.2 (37:Int32) (8:Int32) hq56) (cwV 2 hts gX6_simulate_X6_sumOf rfl rfl rfl hd_X6_sumOf ⟨Nat.le_of_ble_eq_true rfl, Nat.le_of_ble_eq_true rfl⟩) hK hP hD hS hA (is := [0]) rfl rfl 0 rfl rfl rfl rfl hl.1 rfl (Nat.le_of_ble_eq_true rfl) dX6_simulate_211 ⟨Nat.le_of_ble_eq_true rfl, Nat.le_of_ble_eq_true rfl⟩ rfl (fun H locs hP hD hS => ?_)
      refine lv_istore (lv' := [(8, .int q56.1), (7, .int x55), (0, .ref (a0 0)), (3, .int i3), (4, .int q6.1), (5, .long e53.1)]) hx hb dX6_simulate_214 hl (by decide) rfl (fun ls hl => ?_)
      refine lv_aload_n hx hb dX6_simulate_216 rfl (lv_at hl 2 rfl) ?_
      obtain ⟨q57, hq57, hf⟩ := bd_some hf
      refine g_callVv S (As := []) (gs' := [mdW G a0 q57.2]) (c_X6_bringBack l G a0 e53.2.2 hq57) (cwV 0 hts gX6_simulate_X6_bringBack rfl rfl rfl hd_X6_bringBack ⟨Nat.le_of_ble_eq_true rfl, Nat.le_of_ble_eq_true rfl⟩) hK hP hD hS hA (is := [0]) rfl rfl 0 rfl rfl rfl rfl hl.1 rfl (Nat.le_of_ble_eq_true rfl) dX6_simulate_217 ⟨Nat.le_of_ble_eq_true rfl, Nat.le_of_ble_eq_true rfl⟩ rfl (fun H locs hP hD hS => ?_)
      refine lv_sipush (v := (1000:Int32)) hx hb dX6_simulate_220 (by decide) ?_
      refine lv_iload hx hb dX6_simulate_223 (lv_at hl 0 rfl) ?_
      refine lv_imul hx hb dX6_simulate_225 ?_
      refine lv_iload hx hb dX6_simulate_226 (lv_at hl 1 rfl) ?_
      refine lv_sipush (v := (999:Int32)) hx hb dX6_simulate_228 (by decide) ?_
      refine lv_icmp_le (tgt := 240) hx hb dX6_simulate_231 (by decide) (fun c58 => ?_) (fun c58 => ?_)
      · rw [if_pos c58] at hf
        refine lv_iload hx hb dX6_simulate_240 (lv_at hl 1 rfl) ?_
        refine lv_iadd hx hb dX6_simulate_242 ?_
        cases hf
        exact g_iret hx hb hr hlocks hP hS dX6_simulate_243
      · rw [if_neg c58] at hf
        refine lv_sipush (v := (999:Int32)) hx hb dX6_simulate_234 (by decide) ?_
        refine lv_goto (tgt := 242) hx hb dX6_simulate_237 (by decide) ?_
        refine lv_iadd hx hb dX6_simulate_242 ?_
        cases hf
        exact g_iret hx hb hr hlocks hP hS dX6_simulate_243
    · rw [if_neg c4] at hf
      refine lv_iconst (v := (0:Int32)) hx hb dX6_simulate_26 (by decide) ?_
      cases hf
      exact g_iret hx hb hr hlocks hP hS dX6_simulate_27
  · rw [if_neg c2] at hf
    refine lv_iconst (v := (0:Int32)) hx hb dX6_simulate_11 (by decide) ?_
    refine lv_goto (tgt := 16) hx hb dX6_simulate_12 (by decide) ?_
    obtain ⟨u59, eu59, hf⟩ := lt_some hf
    refine g_put (ty := .int) (C := RX6) (T := TX6) (N := 15) (gs' := [mdW G a0 u59]) hx hb hts iwX6_simulate_X6 tyX6 tyX6_ok nmX6 hown hK hP hD hS 0 0 rfl rfl rfl 0 (Nat.le_of_ble_eq_true rfl) (hts _ kX6_simulate_0) (fun _ h9 => h9) rfl (by decide +kernel) rfl rfl (Nat.le_of_ble_eq_true rfl) dX6_simulate_16 (by rw [eu59]; rfl) (fun H locs hP hD hS => ?_)
    refine lv_aload_n hx hb dX6_simulate_19 rfl (lv_at hl 0 rfl) ?_
    refine g_get (C := RX6) (T := TX6) (N := 15) hx hb hts iwX6_simulate_X6 hown hK hP 0 0 rfl rfl rfl 0 (Nat.le_of_ble_eq_true rfl) (hts _ kX6_simulate_0) (fun _ h9 => h9) rfl dX6_simulate_20 ?_
    refine lv_if_le (tgt := 28) hx hb dX6_simulate_23 (by decide) (fun c60 => ?_) (fun c60 => ?_)
    · rw [if_pos c60] at hf
      refine lv_aload_n hx hb dX6_simulate_28 rfl (lv_at hl 0 rfl) ?_
      obtain ⟨q61, hq61, hf⟩ := bd_some hf
      refine g_callVv S (As := []) (gs' := [mdW G a0 q61.2]) (c_X6_putAside l G a0 u59 hq61) (cwV 0 hts gX6_simulate_X6_putAside rfl rfl rfl hd_X6_putAside ⟨Nat.le_of_ble_eq_true rfl, Nat.le_of_ble_eq_true rfl⟩) hK hP hD hS hA (is := [0]) rfl rfl 0 rfl rfl rfl rfl hl.1 rfl (Nat.le_of_ble_eq_true rfl) dX6_simulate_29 ⟨Nat.le_of_ble_eq_true rfl, Nat.le_of_ble_eq_true rfl⟩ rfl (fun H locs hP hD hS => ?_)
      refine lv_aload_n hx hb dX6_simulate_32 rfl (lv_at hl 0 rfl) ?_
      refine lv_bipush (v := (85:Int32)) hx hb dX6_simulate_33 (by decide) ?_
      refine lv_bipush (v := (8:Int32)) hx hb dX6_simulate_35 (by decide) ?_
      obtain ⟨q62, hq62, hf⟩ := bd_some hf
      refine g_callVi S (As := [.int (85:Int32), .int (8:Int32)]) (gs' := [mdW G a0 q61.2]) (c_X6_sumOf l G a0 q61.2 (85:Int32) (8:Int32) hq62) (cwV 2 hts gX6_simulate_X6_sumOf rfl rfl rfl hd_X6_sumOf ⟨Nat.le_of_ble_eq_true rfl, Nat.le_of_ble_eq_true rfl⟩) hK hP hD hS hA (is := [0]) rfl rfl 0 rfl rfl rfl rfl hl.1 rfl (Nat.le_of_ble_eq_true rfl) dX6_simulate_37 ⟨Nat.le_of_ble_eq_true rfl, Nat.le_of_ble_eq_true rfl⟩ rfl (fun H locs hP hD hS => ?_)
      refine lv_istore (lv' := [(4, .int q62.1), (0, .ref (a0 0)), (1, .long i1), (3, .int i3)]) hx hb dX6_simulate_40 hl (by decide) rfl (fun ls hl => ?_)
      refine lv_lload_n hx hb dX6_simulate_42 rfl (lv_at hl 2 rfl) ?_
      refine lv_lstore (lv' := [(5, .long i1), (4, .int q62.1), (0, .ref (a0 0)), (1, .long i1), (3, .int i3)]) hx hb dX6_simulate_43 hl (by decide) rfl (fun ls hl => ?_)
      refine lv_iconst (v := (0:Int32)) hx hb dX6_simulate_45 (by decide) ?_
      refine lv_istore (lv' := [(7, .int (0:Int32)), (5, .long i1), (4, .int q62.1), (0, .ref (a0 0)), (1, .long i1), (3, .int i3)]) hx hb dX6_simulate_46 hl (by decide) rfl (fun ls hl => ?_)
      obtain ⟨e63, he63, hf⟩ := bd_some hf
      refine w_X6_simulate_48 (Q := _) S hK hA G a0 i3 q62.1 FU _ e63 he63 _ _ _ hP hD hS (lv_sub hl [3, 5, 2, 1, 0] rfl) (fun H locs ls hP hD hS hl => ?_)
      refine lv_aload_n hx hb dX6_simulate_193 rfl (lv_at hl 0 rfl) ?_
      refine lv_bipush (v := (85:Int32)) hx hb dX6_simulate_194 (by decide) ?_
      refine lv_bipush (v := (8:Int32)) hx hb dX6_simulate_196 (by decide) ?_
      obtain ⟨q64, hq64, hf⟩ := bd_some hf
      refine g_callVi S (As := [.int (85:Int32), .int (8:Int32)]) (gs' := [mdW G a0 e63.2.2]) (c_X6_sumOf l G a0 e63.2.2 (85:Int32) (8:Int32) hq64) (cwV 2 hts gX6_simulate_X6_sumOf rfl rfl rfl hd_X6_sumOf ⟨Nat.le_of_ble_eq_true rfl, Nat.le_of_ble_eq_true rfl⟩) hK hP hD hS hA (is := [0]) rfl rfl 0 rfl rfl rfl rfl hl.1 rfl (Nat.le_of_ble_eq_true rfl) dX6_simulate_198 ⟨Nat.le_of_ble_eq_true rfl, Nat.le_of_ble_eq_true rfl⟩ rfl (fun H locs hP hD hS => ?_)
      refine lv_iload hx hb dX6_simulate_201 (lv_at hl 2 rfl) ?_
      refine lv_isub hx hb dX6_simulate_203 ?_
      obtain ⟨x65, ex65, hf⟩ := lt_some hf
      refine lv_nmi ex65 ?_
      refine lv_istore (lv' := [(7, .int x65), (0, .ref (a0 0)), (3, .int i3), (4, .int q62.1), (5, .long e63.1)]) hx hb dX6_simulate_204 hl (by decide) rfl (fun ls hl => ?_)
      refine lv_aload_n hx hb dX6_simulate_206 rfl (lv_at hl 1 rfl) ?_
      refine lv_bipush (v := (37:Int32)) hx hb dX6_simulate_207 (by decide) ?_
      refine lv_bipush (v := (8:Int32)) hx hb dX6_simulate_209 (by decide) ?_
      obtain ⟨q66, hq66, hf⟩ := bd_some hf
      refine g_callVi S (As := [.int (37:Int32), .int (8:Int32)]) (gs' := [mdW G a0 e63.2.2]) (c_X6_sumOf l G a0 e63.2.2 (37:Int32) (8:Int32) hq66) (cwV 2 hts gX6_simulate_X6_sumOf rfl rfl rfl hd_X6_sumOf ⟨Nat.le_of_ble_eq_true rfl, Nat.le_of_ble_eq_true rfl⟩) hK hP hD hS hA (is := [0]) rfl rfl 0 rfl rfl rfl rfl hl.1 rfl (Nat.le_of_ble_eq_true rfl) dX6_simulate_211 ⟨Nat.le_of_ble_eq_true rfl, Nat.le_of_ble_eq_true rfl⟩ rfl (fun H locs hP hD hS => ?_)
      refine lv_istore (lv' := [(8, .int q66.1), (7, .int x65), (0, .ref (a0 0)), (3, .int i3), (4, .int q62.1), (5, .long e63.1)]) hx hb dX6_simulate_214 hl (by decide) rfl (fun ls hl => ?_)
      refine lv_aload_n hx hb dX6_simulate_216 rfl (lv_at hl 2 rfl) ?_
      obtain ⟨q67, hq67, hf⟩ := bd_some hf
      refine g_callVv S (As := []) (gs' := [mdW G a0 q67.2]) (c_X6_bringBack l G a0 e63.2.2 hq67) (cwV 0 hts gX6_simulate_X6_bringBack rfl rfl rfl hd_X6_bringBack ⟨Nat.le_of_ble_eq_true rfl, Nat.le_of_ble_eq_true rfl⟩) hK hP hD hS hA (is := [0]) rfl rfl 0 rfl rfl rfl rfl hl.1 rfl (Nat.le_of_ble_eq_true rfl) dX6_simulate_217 ⟨Nat.le_of_ble_eq_true rfl, Nat.le_of_ble_eq_true rfl⟩ rfl (fun H locs hP hD hS => ?_)
      refine lv_sipush (v := (1000:Int32)) hx hb dX6_simulate_220 (by decide) ?_
      refine lv_iload hx hb dX6_simulate_223 (lv_at hl 0 rfl) ?_
      refine lv_imul hx hb dX6_simulate_225 ?_
      refine lv_iload hx hb dX6_simulate_226 (lv_at hl 1 rfl) ?_
      refine lv_sipush (v := (999:Int32)) hx hb dX6_simulate_228 (by decide) ?_
      refine lv_icmp_le (tgt := 240) hx hb dX6_simulate_231 (by decide) (fun c68 => ?_) (fun c68 => ?_)
      · rw [if_pos c68] at hf
        refine lv_iload hx hb dX6_simulate_240 (lv_at hl 1 rfl) ?_
        refine lv_iadd hx hb dX6_simulate_242 ?_
        cases hf
        exact g_iret hx hb hr hlocks hP hS dX6_simulate_243
      · rw [if_neg c68] at hf
        refine lv_sipush (v := (999:Int32)) hx hb dX6_simulate_234 (by decide) ?_
        refine lv_goto (tgt := 242) hx hb dX6_simulate_237 (by decide) ?_
        refine lv_iadd hx hb dX6_simulate_242 ?_
        cases hf
        exact g_iret hx hb hr hlocks hP hS dX6_simulate_243
    · rw [if_neg c60] at hf
      refine lv_iconst (v := (0:Int32)) hx hb dX6_simulate_26 (by decide) ?_
      cases hf
      exact g_iret hx hb hr hlocks hP hS dX6_simulate_27
