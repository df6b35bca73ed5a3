theorem hd_X0_remember : yX0_remember.cls = RX0 ∧ yX0_remember.cls ≠ "java/lang/invoke/MethodHandle" ∧ yX0_remember.cls ≠ "java/lang/invoke/VarHandle" ∧ (parseMethodDescriptor yX0_remember.desc).map (fun d => d.parameters.length) = some 1 := by decide +kernel
theorem hd_X0_takeBack : yX0_takeBack.cls = RX0 ∧ yX0_takeBack.cls ≠ "java/lang/invoke/MethodHandle" ∧ yX0_takeBack.cls ≠ "java/lang/invoke/VarHandle" ∧ (parseMethodDescriptor yX0_takeBack.desc).map (fun d => d.parameters.length) = some 1 := by decide +kernel
theorem hd_X1_greatestBidBeside : yX1_greatestBidBeside.cls = RX1 ∧ yX1_greatestBidBeside.cls ≠ "java/lang/invoke/MethodHandle" ∧ yX1_greatestBidBeside.cls ≠ "java/lang/invoke/VarHandle" ∧ (parseMethodDescriptor yX1_greatestBidBeside.desc).map (fun d => d.parameters.length) = some 2 := by decide +kernel
theorem hd_X1_pass : yX1_pass.cls = RX1 ∧ yX1_pass.cls ≠ "java/lang/invoke/MethodHandle" ∧ yX1_pass.cls ≠ "java/lang/invoke/VarHandle" ∧ (parseMethodDescriptor yX1_pass.desc).map (fun d => d.parameters.length) = some 1 := by decide +kernel
theorem hd_X3_chainLength : yX3_chainLength.cls = RX3 ∧ yX3_chainLength.cls ≠ "java/lang/invoke/MethodHandle" ∧ yX3_chainLength.cls ≠ "java/lang/invoke/VarHandle" ∧ (parseMethodDescriptor yX3_chainLength.desc).map (fun d => d.parameters.length) = some 1 := by decide +kernel
theorem hd_X3_go : yX3_go.cls = RX3 ∧ yX3_go.cls ≠ "java/lang/invoke/MethodHandle" ∧ yX3_go.cls ≠ "java/lang/invoke/VarHandle" ∧ (parseMethodDescriptor yX3_go.desc).map (fun d => d.parameters.length) = some 1 := by decide +kernel
theorem hd_X3_join : yX3_join.cls = RX3 ∧ yX3_join.cls ≠ "java/lang/invoke/MethodHandle" ∧ yX3_join.cls ≠ "java/lang/invoke/VarHandle" ∧ (parseMethodDescriptor yX3_join.desc).map (fun d => d.parameters.length) = some 1 := by decide +kernel
theorem hd_X3_mayBid : yX3_mayBid.cls = RX3 ∧ yX3_mayBid.cls ≠ "java/lang/invoke/MethodHandle" ∧ yX3_mayBid.cls ≠ "java/lang/invoke/VarHandle" ∧ (parseMethodDescriptor yX3_mayBid.desc).map (fun d => d.parameters.length) = some 1 := by decide +kernel
theorem hd_X3_mayGo : yX3_mayGo.cls = RX3 ∧ yX3_mayGo.cls ≠ "java/lang/invoke/MethodHandle" ∧ yX3_mayGo.cls ≠ "java/lang/invoke/VarHandle" ∧ (parseMethodDescriptor yX3_mayGo.desc).map (fun d => d.parameters.length) = some 1 := by decide +kernel
theorem hd_X3_mayPass : yX3_mayPass.cls = RX3 ∧ yX3_mayPass.cls ≠ "java/lang/invoke/MethodHandle" ∧ yX3_mayPass.cls ≠ "java/lang/invoke/VarHandle" ∧ (parseMethodDescriptor yX3_mayPass.desc).map (fun d => d.parameters.length) = some 0 := by decide +kernel
theorem hd_X3_mayReceive : yX3_mayReceive.cls = RX3 ∧ yX3_mayReceive.cls ≠ "java/lang/invoke/MethodHandle" ∧ yX3_mayReceive.cls ≠ "java/lang/invoke/VarHandle" ∧ (parseMethodDescriptor yX3_mayReceive.desc).map (fun d => d.parameters.length) = some 1 := by decide +kernel
theorem hd_X3_receive : yX3_receive.cls = RX3 ∧ yX3_receive.cls ≠ "java/lang/invoke/MethodHandle" ∧ yX3_receive.cls ≠ "java/lang/invoke/VarHandle" ∧ (parseMethodDescriptor yX3_receive.desc).map (fun d => d.parameters.length) = some 2 := by decide +kernel
theorem hd_X3_sumOfDebts : yX3_sumOfDebts.cls = RX3 ∧ yX3_sumOfDebts.cls ≠ "java/lang/invoke/MethodHandle" ∧ yX3_sumOfDebts.cls ≠ "java/lang/invoke/VarHandle" ∧ (parseMethodDescriptor yX3_sumOfDebts.desc).map (fun d => d.parameters.length) = some 0 := by decide +kernel
theorem hd_X3_sumOfPurses : yX3_sumOfPurses.cls = RX3 ∧ yX3_sumOfPurses.cls ≠ "java/lang/invoke/MethodHandle" ∧ yX3_sumOfPurses.cls ≠ "java/lang/invoke/VarHandle" ∧ (parseMethodDescriptor yX3_sumOfPurses.desc).map (fun d => d.parameters.length) = some 0 := by decide +kernel
theorem hd_X5_requireMember : yX5_requireMember.cls = RX5 ∧ yX5_requireMember.cls ≠ "java/lang/invoke/MethodHandle" ∧ yX5_requireMember.cls ≠ "java/lang/invoke/VarHandle" ∧ (parseMethodDescriptor yX5_requireMember.desc).map (fun d => d.parameters.length) = some 1 := by decide +kernel
theorem hd_X5_requireRange : yX5_requireRange.cls = RX5 ∧ yX5_requireRange.cls ≠ "java/lang/invoke/MethodHandle" ∧ yX5_requireRange.cls ≠ "java/lang/invoke/VarHandle" ∧ (parseMethodDescriptor yX5_requireRange.desc).map (fun d => d.parameters.length) = some 3 := by decide +kernel
theorem hd_X5_requireTwoMembers : yX5_requireTwoMembers.cls = RX5 ∧ yX5_requireTwoMembers.cls ≠ "java/lang/invoke/MethodHandle" ∧ yX5_requireTwoMembers.cls ≠ "java/lang/invoke/VarHandle" ∧ (parseMethodDescriptor yX5_requireTwoMembers.desc).map (fun d => d.parameters.length) = some 2 := by decide +kernel
theorem kX5_about_0 : Cond.fieldLink RX5 10 "SavingsCircle" "now" "LSavingsCircle$State;" ∈ wsX5_about := (List.mem_cons_of_mem _ (List.mem_append_left _ (List.mem_append_left _ (List.mem_append_left _ (List.mem_append_left _ (List.mem_of_getElem? (i := 2) rfl))))))
theorem kX5_about_1 : Cond.fieldLink RX5 88 "SavingsCircle$State" "count" "I" ∈ wsX5_about := (List.mem_cons_of_mem _ (List.mem_append_left _ (List.mem_append_left _ (List.mem_append_left _ (List.mem_append_left _ (List.mem_of_getElem? (i := 3) rfl))))))
theorem kX5_about_2 : Cond.fieldLink RX5 95 "SavingsCircle$State" "month" "I" ∈ wsX5_about := (List.mem_cons_of_mem _ (List.mem_append_left _ (List.mem_append_left _ (List.mem_append_left _ (List.mem_append_left _ (List.mem_of_getElem? (i := 4) rfl))))))
theorem kX5_about_3 : Cond.fieldLink RX5 98 "SavingsCircle$State" "contribution" "I" ∈ wsX5_about := (List.mem_cons_of_mem _ (List.mem_append_left _ (List.mem_append_left _ (List.mem_append_left _ (List.mem_append_left _ (List.mem_of_getElem? (i := 5) rfl))))))
theorem kX5_about_4 : Cond.fieldLink RX5 101 "SavingsCircle$State" "box" "I" ∈ wsX5_about := (List.mem_cons_of_mem _ (List.mem_append_left _ (List.mem_append_left _ (List.mem_append_left _ (List.mem_append_left _ (List.mem_of_getElem? (i := 6) rfl))))))
theorem kX5_about_5 : Cond.fieldLink RX5 113 "SavingsCircle$State" "given" "I" ∈ wsX5_about := (List.mem_cons_of_mem _ (List.mem_append_left _ (List.mem_append_left _ (List.mem_append_left _ (List.mem_append_left _ (List.mem_of_getElem? (i := 7) rfl))))))
theorem iwX5_about_X5 : ∀ w ∈ wsX50, w ∈ wsX5_about := fun w h => (List.mem_cons_of_mem _ (List.mem_append_left _ (List.mem_append_left _ (List.mem_append_right _ h))))
theorem iwX5_about_X3 : ∀ w ∈ wsX30, w ∈ wsX5_about := fun w h => (List.mem_cons_of_mem _ (List.mem_append_left _ (List.mem_append_right _ h)))
set_option maxHeartbeats 4000000 in
set_option maxRecDepth 100000 in
theorem c_X5_about (l : Launch) (G : uG) (a0 : Nat → Nat) (a1 : Nat → Nat) (a2 : Nat → Nat) (a3 : Nat → Nat) (a4 : Nat → Nat) (a5 : Nat → Nat) (a6 : Nat → Nat) (a7 : Nat → Nat → Nat) (a8 : Nat → Nat) (a9 : Nat → Nat) (a10 : Nat → Nat) (a11 : Nat → Nat) (v1 : StV) (i1 : Int32) {q : Int32 × (Unit)} (hf : f_X5_about v1 i1 = some q) : mQ l yX5_about wsX5_about ({ frames := 1, cells := 0, slots := 0, locals := 22 } : Room) G [.ref (a0 0), .int i1] [maW a0 (a1 0) (a2 0) (a3 0) (a4 0) (a7 0 0) (a8 0) (a9 0) (a9 1), stW G a1 v1] [maW a0 (a1 0) (a2 0) (a3 0) (a4 0) (a7 0 0) (a8 0) (a9 0) (a9 1), stW G a1 v1] (qI G [maW a0 (a1 0) (a2 0) (a3 0) (a4 0) (a7 0 0) (a8 0) (a9 0) (a9 1), stW G a1 v1] q.1) := by
  unfold f_X5_about at hf
  refine m_of (cc := cX5_about) (maxL := 2) (ret := (some .int)) (by decide) rfl rfl (Nat.le_of_ble_eq_true rfl) ?_
  intro p e s m args below meth c A ls S hK hA hP hD hS hl
  obtain ⟨hx, hb, hml, hown, hts, hr, hlocks⟩ := id S
  have hl : lv_has ls 2 [(0, .ref (a0 0)), (1, .int i1)] := hl
  refine lv_iload_n hx hb dX5_about_0 rfl (lv_at hl 1 rfl) ?_
  by_cases c1 : i1 = (0:Int32)
  · rw [if_pos c1] at hf
    refine lv_tableIn (tgt := 52) hx hb dX5_about_1 (by rw [c1]; decide) (by rw [c1]; decide) (by rw [c1]; rfl) (by decide) ?_
    refine lv_aload_n hx hb dX5_about_52 rfl (lv_at hl 0 rfl) ?_
    refine g_get (C := RX5) (T := TX5) (N := 8) hx hb hts iwX5_about_X5 hown hK hP 0 0 rfl rfl rfl 0 (Nat.le_of_ble_eq_true rfl) (hts _ kX5_about_0) (fun _ h9 => h9) rfl dX5_about_53 ?_
    refine g_get (C := RX3) (T := TX3) (N := 17) hx hb hts iwX5_about_X3 hown hK hP 1 0 rfl rfl rfl 0 (Nat.le_of_ble_eq_true rfl) (hts _ kX5_about_1) (fun _ h9 => h9) rfl dX5_about_56 ?_
    cases hf
    exact g_iret hx hb hr hlocks hP hS dX5_about_59
  · rw [if_neg c1] at hf
    by_cases c2 : i1 = (1:Int32)
    · rw [if_pos c2] at hf
      refine lv_tableIn (tgt := 60) hx hb dX5_about_1 (by rw [c2]; decide) (by rw [c2]; decide) (by rw [c2]; rfl) (by decide) ?_
      refine lv_aload_n hx hb dX5_about_60 rfl (lv_at hl 0 rfl) ?_
      refine g_get (C := RX5) (T := TX5) (N := 8) hx hb hts iwX5_about_X5 hown hK hP 0 0 rfl rfl rfl 0 (Nat.le_of_ble_eq_true rfl) (hts _ kX5_about_0) (fun _ h9 => h9) rfl dX5_about_61 ?_
      obtain ⟨q3, hq3, hf⟩ := bd_some hf
      refine g_callVi S (As := []) (gs' := [maW a0 (a1 0) (a2 0) (a3 0) (a4 0) (a7 0 0) (a8 0) (a9 0) (a9 1), stW G a1 v1]) (c_X3_countInside l G a1 v1 hq3) (cwV 0 hts gX5_about_X3_countInside rfl rfl rfl hd_X3_countInside ⟨Nat.le_of_ble_eq_true rfl, Nat.le_of_ble_eq_true rfl⟩) hK hP hD hS hA (is := [1]) rfl rfl 1 rfl rfl rfl rfl hl.1 rfl (Nat.le_of_ble_eq_true rfl) dX5_about_64 ⟨Nat.le_of_ble_eq_true rfl, Nat.le_of_ble_eq_true rfl⟩ rfl (fun H locs hP hD hS => ?_)
      cases hf
      exact g_iret hx hb hr hlocks hP hS dX5_about_67
    · rw [if_neg c2] at hf
      by_cases c4 : i1 = (2:Int32)
      · rw [if_pos c4] at hf
        refine lv_tableIn (tgt := 68) hx hb dX5_about_1 (by rw [c4]; decide) (by rw [c4]; decide) (by rw [c4]; rfl) (by decide) ?_
        refine lv_aload_n hx hb dX5_about_68 rfl (lv_at hl 0 rfl) ?_
        refine g_get (C := RX5) (T := TX5) (N := 8) hx hb hts iwX5_about_X5 hown hK hP 0 0 rfl rfl rfl 0 (Nat.le_of_ble_eq_true rfl) (hts _ kX5_about_0) (fun _ h9 => h9) rfl dX5_about_69 ?_
        refine g_get (C := RX3) (T := TX3) (N := 17) hx hb hts iwX5_about_X3 hown hK hP 1 0 rfl rfl rfl 1 (Nat.le_of_ble_eq_true rfl) (hts _ kX5_about_2) (fun _ h9 => h9) rfl dX5_about_72 ?_
        cases hf
        exact g_iret hx hb hr hlocks hP hS dX5_about_75
      · rw [if_neg c4] at hf
        by_cases c5 : i1 = (3:Int32)
        · rw [if_pos c5] at hf
          refine lv_tableIn (tgt := 76) hx hb dX5_about_1 (by rw [c5]; decide) (by rw [c5]; decide) (by rw [c5]; rfl) (by decide) ?_
          refine lv_aload_n hx hb dX5_about_76 rfl (lv_at hl 0 rfl) ?_
          refine g_get (C := RX5) (T := TX5) (N := 8) hx hb hts iwX5_about_X5 hown hK hP 0 0 rfl rfl rfl 0 (Nat.le_of_ble_eq_true rfl) (hts _ kX5_about_0) (fun _ h9 => h9) rfl dX5_about_77 ?_
          refine g_get (C := RX3) (T := TX3) (N := 17) hx hb hts iwX5_about_X3 hown hK hP 1 0 rfl rfl rfl 2 (Nat.le_of_ble_eq_true rfl) (hts _ kX5_about_3) (fun _ h9 => h9) rfl dX5_about_80 ?_
          cases hf
          exact g_iret hx hb hr hlocks hP hS dX5_about_83
        · rw [if_neg c5] at hf
          by_cases c6 : i1 = (4:Int32)
          · rw [if_pos c6] at hf
            refine lv_tableIn (tgt := 84) hx hb dX5_about_1 (by rw [c6]; decide) (by rw [c6]; decide) (by rw [c6]; rfl) (by decide) ?_
            refine lv_aload_n hx hb dX5_about_84 rfl (lv_at hl 0 rfl) ?_
            refine g_get (C := RX5) (T := TX5) (N := 8) hx hb hts iwX5_about_X5 hown hK hP 0 0 rfl rfl rfl 0 (Nat.le_of_ble_eq_true rfl) (hts _ kX5_about_0) (fun _ h9 => h9) rfl dX5_about_85 ?_
            refine g_get (C := RX3) (T := TX3) (N := 17) hx hb hts iwX5_about_X3 hown hK hP 1 0 rfl rfl rfl 3 (Nat.le_of_ble_eq_true rfl) (hts _ kX5_about_4) (fun _ h9 => h9) rfl dX5_about_88 ?_
            cases hf
            exact g_iret hx hb hr hlocks hP hS dX5_about_91
          · rw [if_neg c6] at hf
            by_cases c7 : i1 = (5:Int32)
            · rw [if_pos c7] at hf
              refine lv_tableIn (tgt := 92) hx hb dX5_about_1 (by rw [c7]; decide) (by rw [c7]; decide) (by rw [c7]; rfl) (by decide) ?_
              refine lv_aload_n hx hb dX5_about_92 rfl (lv_at hl 0 rfl) ?_
              refine g_get (C := RX5) (T := TX5) (N := 8) hx hb hts iwX5_about_X5 hown hK hP 0 0 rfl rfl rfl 0 (Nat.le_of_ble_eq_true rfl) (hts _ kX5_about_0) (fun _ h9 => h9) rfl dX5_about_93 ?_
              obtain ⟨q8, hq8, hf⟩ := bd_some hf
              refine g_callVi S (As := []) (gs' := [maW a0 (a1 0) (a2 0) (a3 0) (a4 0) (a7 0 0) (a8 0) (a9 0) (a9 1), stW G a1 v1]) (c_X3_sumOfPurses l G a1 v1 hq8) (cwV 0 hts gX5_about_X3_sumOfPurses rfl rfl rfl hd_X3_sumOfPurses ⟨Nat.le_of_ble_eq_true rfl, Nat.le_of_ble_eq_true rfl⟩) hK hP hD hS hA (is := [1]) rfl rfl 1 rfl rfl rfl rfl hl.1 rfl (Nat.le_of_ble_eq_true rfl) dX5_about_96 ⟨Nat.le_of_ble_eq_true rfl, Nat.le_of_ble_eq_true rfl⟩ rfl (fun H locs hP hD hS => ?_)
              cases hf
              exact g_iret hx hb hr hlocks hP hS dX5_about_99
            · rw [if_neg c7] at hf
              by_cases c9 : i1 = (6:Int32)
              · rw [if_pos c9] at hf
                refine lv_tableIn (tgt := 100) hx hb dX5_about_1 (by rw [c9]; decide) (by rw [c9]; decide) (by rw [c9]; rfl) (by decide) ?_
                refine lv_aload_n hx hb dX5_about_100 rfl (lv_at hl 0 rfl) ?_
                refine g_get (C := RX5) (T := TX5) (N := 8) hx hb hts iwX5_about_X5 hown hK hP 0 0 rfl rfl rfl 0 (Nat.le_of_ble_eq_true rfl) (hts _ kX5_about_0) (fun _ h9 => h9) rfl dX5_about_101 ?_
                obtain ⟨q10, hq10, hf⟩ := bd_some hf
                refine g_callVi S (As := []) (gs' := [maW a0 (a1 0) (a2 0) (a3 0) (a4 0) (a7 0 0) (a8 0) (a9 0) (a9 1), stW G a1 v1]) (c_X3_countWaiting l G a1 v1 hq10) (cwV 0 hts gX5_about_X3_countWaiting rfl rfl rfl hd_X3_countWaiting ⟨Nat.le_of_ble_eq_true rfl, Nat.le_of_ble_eq_true rfl⟩) hK hP hD hS hA (is := [1]) rfl rfl 1 rfl rfl rfl rfl hl.1 rfl (Nat.le_of_ble_eq_true rfl) dX5_about_104 ⟨Nat.le_of_ble_eq_true rfl, Nat.le_of_ble_eq_true rfl⟩ rfl (fun H locs hP hD hS => ?_)
                cases hf
                exact g_iret hx hb hr hlocks hP hS dX5_about_107
              · rw [if_neg c9] at hf
                by_cases c11 : i1 = (7:Int32)
                · rw [if_pos c11] at hf
                  refine lv_tableIn (tgt := 108) hx hb dX5_about_1 (by rw [c11]; decide) (by rw [c11]; decide) (by rw [c11]; rfl) (by decide) ?_
                  refine lv_aload_n hx hb dX5_about_108 rfl (lv_at hl 0 rfl) ?_
                  refine g_get (C := RX5) (T := TX5) (N := 8) hx hb hts iwX5_about_X5 hown hK hP 0 0 rfl rfl rfl 0 (Nat.le_of_ble_eq_true rfl) (hts _ kX5_about_0) (fun _ h9 => h9) rfl dX5_about_109 ?_
                  obtain ⟨q12, hq12, hf⟩ := bd_some hf
                  refine g_callVi S (As := []) (gs' := [maW a0 (a1 0) (a2 0) (a3 0) (a4 0) (a7 0 0) (a8 0) (a9 0) (a9 1), stW G a1 v1]) (c_X3_sumOfDebts l G a1 v1 hq12) (cwV 0 hts gX5_about_X3_sumOfDebts rfl rfl rfl hd_X3_sumOfDebts ⟨Nat.le_of_ble_eq_true rfl, Nat.le_of_ble_eq_true rfl⟩) hK hP hD hS hA (is := [1]) rfl rfl 1 rfl rfl rfl rfl hl.1 rfl (Nat.le_of_ble_eq_true rfl) dX5_about_112 ⟨Nat.le_of_ble_eq_true rfl, Nat.le_of_ble_eq_true rfl⟩ rfl (fun H locs hP hD hS => ?_)
                  cases hf
                  exact g_iret hx hb hr hlocks hP hS dX5_about_115
                · rw [if_neg c11] at hf
                  by_cases c13 : i1 = (8:Int32)
                  · rw [if_pos c13] at hf
                    refine lv_tableIn (tgt := 116) hx hb dX5_about_1 (by rw [c13]; decide) (by rw [c13]; decide) (by rw [c13]; rfl) (by decide) ?_
                    refine lv_aload_n hx hb dX5_about_116 rfl (lv_at hl 0 rfl) ?_
                    refine g_get (C := RX5) (T := TX5) (N := 8) hx hb hts iwX5_about_X5 hown hK hP 0 0 rfl rfl rfl 0 (Nat.le_of_ble_eq_true rfl) (hts _ kX5_about_0) (fun _ h9 => h9) rfl dX5_about_117 ?_
                    refine g_get (C := RX3) (T := TX3) (N := 17) hx hb hts iwX5_about_X3 hown hK hP 1 0 rfl rfl rfl 4 (Nat.le_of_ble_eq_true rfl) (hts _ kX5_about_5) (fun _ h9 => h9) rfl dX5_about_120 ?_
                    cases hf
                    exact g_iret hx hb hr hlocks hP hS dX5_about_123
                  · rw [if_neg c13] at hf
                    refine lv_tableOut (tgt := 124) hx hb dX5_about_1 (by have n0 := lv_neT c1 (a := 0) (by decide); have n1 := lv_neT c2 (a := 1) (by decide); have n2 := lv_neT c4 (a := 2) (by decide); have n3 := lv_neT c5 (a := 3) (by decide); have n4 := lv_neT c6 (a := 4) (by decide); have n5 := lv_neT c7 (a := 5) (by decide); have n6 := lv_neT c9 (a := 6) (by decide); have n7 := lv_neT c11 (a := 7) (by decide); have n8 := lv_neT c13 (a := 8) (by decide); omega) (by decide) ?_
                    cases hf
theorem kX5_requireMember_0 : Cond.fieldLink RX5 10 "SavingsCircle" "now" "LSavingsCircle$State;" ∈ wsX5_requireMember := (List.mem_cons_of_mem _ (List.mem_append_left _ (List.mem_append_left _ (List.mem_append_left _ (List.mem_of_getElem? (i := 2) rfl)))))
theorem iwX5_requireMember_X5 : ∀ w ∈ wsX50, w ∈ wsX5_requireMember := fun w h => (List.mem_cons_of_mem _ (List.mem_append_left _ (List.mem_append_left _ (List.mem_append_right _ h))))
set_option maxHeartbeats 4000000 in
set_option maxRecDepth 100000 in
theorem c_X5_requireMember (l : Launch) (G : uG) (a0 : Nat → Nat) (a1 : Nat → Nat) (a2 : Nat → Nat) (a3 : Nat → Nat) (a4 : Nat → Nat) (a5 : Nat → Nat) (a6 : Nat → Nat) (a7 : Nat → Nat → Nat) (a8 : Nat → Nat) (a9 : Nat → Nat) (a10 : Nat → Nat) (a11 : Nat → Nat) (v1 : StV) (i1 : Int32) {q : Unit × (Unit)} (hf : f_X5_requireMember v1 i1 = some q) : mQ l yX5_requireMember wsX5_requireMember ({ frames := 1, cells := 0, slots := 0, locals := 21 } : Room) G [.ref (a0 0), .int i1] [maW a0 (a1 0) (a2 0) (a3 0) (a4 0) (a7 0 0) (a8 0) (a9 0) (a9 1), stW G a1 v1] [maW a0 (a1 0) (a2 0) (a3 0) (a4 0) (a7 0 0) (a8 0) (a9 0) (a9 1), stW G a1 v1] (qV G [maW a0 (a1 0) (a2 0) (a3 0) (a4 0) (a7 0 0) (a8 0) (a9 0) (a9 1), stW G a1 v1] q.1) := by
  unfold f_X5_requireMember at hf
  refine m_of (cc := cX5_requireMember) (maxL := 2) (ret := none) (by decide) rfl rfl (Nat.le_of_ble_eq_true rfl) ?_
  intro p e s m args below meth c A ls S hK hA hP hD hS hl
  obtain ⟨hx, hb, hml, hown, hts, hr, hlocks⟩ := id S
  have hl : lv_has ls 2 [(0, .ref (a0 0)), (1, .int i1)] := hl
  refine lv_aload_n hx hb dX5_requireMember_0 rfl (lv_at hl 0 rfl) ?_
  refine g_get (C := RX5) (T := TX5) (N := 8) hx hb hts iwX5_requireMember_X5 hown hK hP 0 0 rfl rfl rfl 0 (Nat.le_of_ble_eq_true rfl) (hts _ kX5_requireMember_0) (fun _ h9 => h9) rfl dX5_requireMember_1 ?_
  refine lv_iload_n hx hb dX5_requireMember_4 rfl (lv_at hl 1 rfl) ?_
  obtain ⟨q1, hq1, hf⟩ := bd_some hf
  refine g_callVi S (As := [.int i1]) (gs' := [maW a0 (a1 0) (a2 0) (a3 0) (a4 0) (a7 0 0) (a8 0) (a9 0) (a9 1), stW G a1 v1]) (c_X3_exists l G a1 v1 i1 hq1) (cwV 1 hts gX5_requireMember_X3_exists rfl rfl rfl hd_X3_exists ⟨Nat.le_of_ble_eq_true rfl, Nat.le_of_ble_eq_true rfl⟩) hK hP hD hS hA (is := [1]) rfl rfl 1 rfl rfl rfl rfl hl.1 rfl (Nat.le_of_ble_eq_true rfl) dX5_requireMember_5 ⟨Nat.le_of_ble_eq_true rfl, Nat.le_of_ble_eq_true rfl⟩ rfl (fun H locs hP hD hS => ?_)
  refine lv_if_ne (tgt := 22) hx hb dX5_requireMember_8 (by decide) (fun c2 => ?_) (fun c2 => ?_)
  · rw [if_neg c2] at hf
    cases hf
    exact g_vret hx hb hr hlocks hP hS dX5_requireMember_22
  · rw [if_pos c2] at hf
    cases hf
theorem kX5_member_0 : Cond.fieldLink RX5 10 "SavingsCircle" "now" "LSavingsCircle$State;" ∈ wsX5_member := (List.mem_cons_of_mem _ (List.mem_append_left _ (List.mem_append_left _ (List.mem_append_left _ (List.mem_append_left _ (List.mem_append_left _ (List.mem_of_getElem? (i := 2) rfl)))))))
theorem kX5_member_1 : Cond.fieldLink RX5 125 "SavingsCircle$State" "purse" "[I" ∈ wsX5_member := (List.mem_cons_of_mem _ (List.mem_append_left _ (List.mem_append_left _ (List.mem_append_left _ (List.mem_append_left _ (List.mem_append_left _ (List.mem_of_getElem? (i := 3) rfl)))))))
theorem kX5_member_2 : Cond.fieldLink RX5 129 "SavingsCircle$State" "guarantor" "[I" ∈ wsX5_member := (List.mem_cons_of_mem _ (List.mem_append_left _ (List.mem_append_left _ (List.mem_append_left _ (List.mem_append_left _ (List.mem_append_left _ (List.mem_of_getElem? (i := 4) rfl)))))))
theorem kX5_member_3 : Cond.fieldLink RX5 132 "SavingsCircle$State" "bid" "[I" ∈ wsX5_member := (List.mem_cons_of_mem _ (List.mem_append_left _ (List.mem_append_left _ (List.mem_append_left _ (List.mem_append_left _ (List.mem_append_left _ (List.mem_of_getElem? (i := 5) rfl)))))))
theorem kX5_member_4 : Cond.fieldLink RX5 135 "SavingsCircle$State" "away" "[Z" ∈ wsX5_member := (List.mem_cons_of_mem _ (List.mem_append_left _ (List.mem_append_left _ (List.mem_append_left _ (List.mem_append_left _ (List.mem_append_left _ (List.mem_of_getElem? (i := 6) rfl)))))))
theorem kX5_member_5 : Cond.fieldLink RX5 138 "SavingsCircle$State" "taken" "[Z" ∈ wsX5_member := (List.mem_cons_of_mem _ (List.mem_append_left _ (List.mem_append_left _ (List.mem_append_left _ (List.mem_append_left _ (List.mem_append_left _ (List.mem_of_getElem? (i := 7) rfl)))))))
theorem kX5_member_6 : Cond.fieldLink RX5 141 "SavingsCircle$State" "inside" "[Z" ∈ wsX5_member := (List.mem_cons_of_mem _ (List.mem_append_left _ (List.mem_append_left _ (List.mem_append_left _ (List.mem_append_left _ (List.mem_append_left _ (List.mem_of_getElem? (i := 8) rfl)))))))
theorem kX5_member_7 : Cond.fieldLink RX5 144 "SavingsCircle$State" "paidForItself" "[I" ∈ wsX5_member := (List.mem_cons_of_mem _ (List.mem_append_left _ (List.mem_append_left _ (List.mem_append_left _ (List.mem_append_left _ (List.mem_append_left _ (List.mem_of_getElem? (i := 9) rfl)))))))
theorem kX5_member_8 : Cond.fieldLink RX5 147 "SavingsCircle$State" "paidForOthers" "[I" ∈ wsX5_member := (List.mem_cons_of_mem _ (List.mem_append_left _ (List.mem_append_left _ (List.mem_append_left _ (List.mem_append_left _ (List.mem_append_left _ (List.mem_of_getElem? (i := 10) rfl)))))))
theorem kX5_member_9 : Cond.fieldLink RX5 150 "SavingsCircle$State" "gotOfPot" "[I" ∈ wsX5_member := (List.mem_cons_of_mem _ (List.mem_append_left _ (List.mem_append_left _ (List.mem_append_left _ (List.mem_append_left _ (List.mem_append_left _ (List.mem_of_getElem? (i := 11) rfl)))))))
theorem kX5_member_10 : Cond.fieldLink RX5 153 "SavingsCircle$State" "shares" "[I" ∈ wsX5_member := (List.mem_cons_of_mem _ (List.mem_append_left _ (List.mem_append_left _ (List.mem_append_left _ (List.mem_append_left _ (List.mem_append_left _ (List.mem_of_getElem? (i := 12) rfl)))))))
theorem kX5_member_11 : Cond.fieldLink RX5 156 "SavingsCircle$State" "misses" "[I" ∈ wsX5_member := (List.mem_cons_of_mem _ (List.mem_append_left _ (List.mem_append_left _ (List.mem_append_left _ (List.mem_append_left _ (List.mem_append_left _ (List.mem_of_getElem? (i := 13) rfl)))))))
theorem iwX5_member_X5 : ∀ w ∈ wsX50, w ∈ wsX5_member := fun w h => (List.mem_cons_of_mem _ (List.mem_append_left _ (List.mem_append_left _ (List.mem_append_left _ (List.mem_append_right _ h)))))
theorem iwX5_member_X3 : ∀ w ∈ wsX30, w ∈ wsX5_member := fun w h => (List.mem_cons_of_mem _ (List.mem_append_left _ (List.mem_append_left _ (List.mem_append_right _ h))))
set_option maxHeartbeats 4000000 in
set_option maxRecDepth 100000 in
theorem c_X5_member (l : Launch) (G : uG) (a0 : Nat → Nat) (a1 : Nat → Nat) (a2 : Nat → Nat) (a3 : Nat → Nat) (a4 : Nat → Nat) (a5 : Nat → Nat) (a6 : Nat → Nat) (a7 : Nat → Nat → Nat) (a8 : Nat → Nat) (a9 : Nat → Nat) (a10 : Nat → Nat) (a11 : Nat → Nat) (v1 : StV) (i1 : Int32) (i2 : Int32) {q : Int32 × (Unit)} (hf : f_X5_member v1 i1 i2 = some q) : mQ l yX5_member wsX5_member ({ frames := 2, cells := 0, slots := 0, locals := 42 } : Room) G [.ref (a0 0), .int i1, .int i2] [maW a0 (a1 0) (a2 0) (a3 0) (a4 0) (a7 0 0) (a8 0) (a9 0) (a9 1), stW G a1 v1] [maW a0 (a1 0) (a2 0) (a3 0) (a4 0) (a7 0 0) (a8 0) (a9 0) (a9 1), stW G a1 v1] (qI G [maW a0 (a1 0) (a2 0) (a3 0) (a4 0) (a7 0 0) (a8 0) (a9 0) (a9 1), stW G a1 v1] q.1) := by
  unfold f_X5_member at hf
  refine m_of (cc := cX5_member) (maxL := 3) (ret := (some .int)) (by decide) rfl rfl (Nat.le_of_ble_eq_true rfl) ?_
  intro p e s m args below meth c A ls S hK hA hP hD hS hl
  obtain ⟨hx, hb, hml, hown, hts, hr, hlocks⟩ := id S
  have hl : lv_has ls 3 [(0, .ref (a0 0)), (1, .int i1), (2, .int i2)] := hl
  refine lv_aload_n hx hb dX5_member_0 rfl (lv_at hl 0 rfl) ?_
  refine lv_iload_n hx hb dX5_member_1 rfl (lv_at hl 1 rfl) ?_
  obtain ⟨q1, hq1, hf⟩ := bd_some hf
  refine g_callVv S (As := [.int i1]) (gs' := [maW a0 (a1 0) (a2 0) (a3 0) (a4 0) (a7 0 0) (a8 0) (a9 0) (a9 1), stW G a1 v1]) (c_X5_requireMember l G a0 a1 a2 a3 a4 a5 a6 a7 a8 a9 a10 a11 v1 i1 hq1) (cwV 1 hts gX5_member_X5_requireMember rfl rfl rfl hd_X5_requireMember ⟨Nat.le_of_ble_eq_true rfl, Nat.le_of_ble_eq_true rfl⟩) hK hP hD hS hA (is := [0, 1]) rfl rfl 0 rfl rfl rfl rfl hl.1 rfl (Nat.le_of_ble_eq_true rfl) dX5_member_2 ⟨Nat.le_of_ble_eq_true rfl, Nat.le_of_ble_eq_true rfl⟩ rfl (fun H locs hP hD hS => ?_)
  refine lv_iload_n hx hb dX5_member_5 rfl (lv_at hl 2 rfl) ?_
  by_cases c2 : i2 = (0:Int32)
  · rw [if_pos c2] at hf
    refine lv_tableIn (tgt := 64) hx hb dX5_member_6 (by rw [c2]; decide) (by rw [c2]; decide) (by rw [c2]; rfl) (by decide) ?_
    refine lv_aload_n hx hb dX5_member_64 rfl (lv_at hl 0 rfl) ?_
    refine g_get (C := RX5) (T := TX5) (N := 8) hx hb hts iwX5_member_X5 hown hK hP 0 0 rfl rfl rfl 0 (Nat.le_of_ble_eq_true rfl) (hts _ kX5_member_0) (fun _ h9 => h9) rfl dX5_member_65 ?_
    refine g_get (C := RX3) (T := TX3) (N := 17) hx hb hts iwX5_member_X3 hown hK hP 1 0 rfl rfl rfl 5 (Nat.le_of_ble_eq_true rfl) (hts _ kX5_member_1) (fun _ h9 => h9) rfl dX5_member_68 ?_
    refine lv_iload_n hx hb dX5_member_71 rfl (lv_at hl 1 rfl) ?_
    obtain ⟨h3, hf⟩ := gi_some hf
    refine g_iald hx hb hK hP 1 1 0 rfl rfl rfl h3 dX5_member_72 ?_
    cases hf
    exact g_iret hx hb hr hlocks hP hS dX5_member_73
  · rw [if_neg c2] at hf
    by_cases c4 : i2 = (1:Int32)
    · rw [if_pos c4] at hf
      refine lv_tableIn (tgt := 74) hx hb dX5_member_6 (by rw [c4]; decide) (by rw [c4]; decide) (by rw [c4]; rfl) (by decide) ?_
      refine lv_aload_n hx hb dX5_member_74 rfl (lv_at hl 0 rfl) ?_
      refine g_get (C := RX5) (T := TX5) (N := 8) hx hb hts iwX5_member_X5 hown hK hP 0 0 rfl rfl rfl 0 (Nat.le_of_ble_eq_true rfl) (hts _ kX5_member_0) (fun _ h9 => h9) rfl dX5_member_75 ?_
      refine g_get (C := RX3) (T := TX3) (N := 17) hx hb hts iwX5_member_X3 hown hK hP 1 0 rfl rfl rfl 6 (Nat.le_of_ble_eq_true rfl) (hts _ kX5_member_2) (fun _ h9 => h9) rfl dX5_member_78 ?_
      refine lv_iload_n hx hb dX5_member_81 rfl (lv_at hl 1 rfl) ?_
      obtain ⟨h5, hf⟩ := gi_some hf
      refine g_iald hx hb hK hP 1 2 0 rfl rfl rfl h5 dX5_member_82 ?_
      cases hf
      exact g_iret hx hb hr hlocks hP hS dX5_member_83
    · rw [if_neg c4] at hf
      by_cases c6 : i2 = (2:Int32)
      · rw [if_pos c6] at hf
        refine lv_tableIn (tgt := 84) hx hb dX5_member_6 (by rw [c6]; decide) (by rw [c6]; decide) (by rw [c6]; rfl) (by decide) ?_
        refine lv_aload_n hx hb dX5_member_84 rfl (lv_at hl 0 rfl) ?_
        refine g_get (C := RX5) (T := TX5) (N := 8) hx hb hts iwX5_member_X5 hown hK hP 0 0 rfl rfl rfl 0 (Nat.le_of_ble_eq_true rfl) (hts _ kX5_member_0) (fun _ h9 => h9) rfl dX5_member_85 ?_
        refine g_get (C := RX3) (T := TX3) (N := 17) hx hb hts iwX5_member_X3 hown hK hP 1 0 rfl rfl rfl 7 (Nat.le_of_ble_eq_true rfl) (hts _ kX5_member_3) (fun _ h9 => h9) rfl dX5_member_88 ?_
        refine lv_iload_n hx hb dX5_member_91 rfl (lv_at hl 1 rfl) ?_
        obtain ⟨h7, hf⟩ := gi_some hf
        refine g_iald hx hb hK hP 1 3 0 rfl rfl rfl h7 dX5_member_92 ?_
        cases hf
        exact g_iret hx hb hr hlocks hP hS dX5_member_93
      · rw [if_neg c6] at hf
        by_cases c8 : i2 = (3:Int32)
        · rw [if_pos c8] at hf
          refine lv_tableIn (tgt := 94) hx hb dX5_member_6 (by rw [c8]; decide) (by rw [c8]; decide) (by rw [c8]; rfl) (by decide) ?_
          refine lv_aload_n hx hb dX5_member_94 rfl (lv_at hl 0 rfl) ?_
          refine g_get (C := RX5) (T := TX5) (N := 8) hx hb hts iwX5_member_X5 hown hK hP 0 0 rfl rfl rfl 0 (Nat.le_of_ble_eq_true rfl) (hts _ kX5_member_0) (fun _ h9 => h9) rfl dX5_member_95 ?_
          refine g_get (C := RX3) (T := TX3) (N := 17) hx hb hts iwX5_member_X3 hown hK hP 1 0 rfl rfl rfl 8 (Nat.le_of_ble_eq_true rfl) (hts _ kX5_member_4) (fun _ h9 => h9) rfl dX5_member_98 ?_
          refine lv_iload_n hx hb dX5_member_101 rfl (lv_at hl 1 rfl) ?_
          obtain ⟨h9, hf⟩ := gi_some hf
          refine g_zald hx hb hK hP 1 4 1 rfl rfl rfl h9 dX5_member_102 ?_
          refine lv_if_eq (tgt := 110) hx hb dX5_member_103 (by decide) (fun c10 => ?_) (fun c10 => ?_)
          · rw [if_pos c10] at hf
            refine lv_iconst (v := (0:Int32)) hx hb dX5_member_110 (by decide) ?_
            cases hf
            exact g_iret hx hb hr hlocks hP hS dX5_member_111
          · rw [if_neg c10] at hf
            refine lv_iconst (v := (1:Int32)) hx hb dX5_member_106 (by decide) ?_
            refine lv_goto (tgt := 111) hx hb dX5_member_107 (by decide) ?_
            cases hf
            exact g_iret hx hb hr hlocks hP hS dX5_member_111
        · rw [if_neg c8] at hf
          by_cases c11 : i2 = (4:Int32)
          · rw [if_pos c11] at hf
            refine lv_tableIn (tgt := 112) hx hb dX5_member_6 (by rw [c11]; decide) (by rw [c11]; decide) (by rw [c11]; rfl) (by decide) ?_
            refine lv_aload_n hx hb dX5_member_112 rfl (lv_at hl 0 rfl) ?_
            refine g_get (C := RX5) (T := TX5) (N := 8) hx hb hts iwX5_member_X5 hown hK hP 0 0 rfl rfl rfl 0 (Nat.le_of_ble_eq_true rfl) (hts _ kX5_member_0) (fun _ h9 => h9) rfl dX5_member_113 ?_
            refine g_get (C := RX3) (T := TX3) (N := 17) hx hb hts iwX5_member_X3 hown hK hP 1 0 rfl rfl rfl 9 (Nat.le_of_ble_eq_true rfl) (hts _ kX5_member_5) (fun _ h9 => h9) rfl dX5_member_116 ?_
            refine lv_iload_n hx hb dX5_member_119 rfl (lv_at hl 1 rfl) ?_
            obtain ⟨h12, hf⟩ := gi_some hf
            refine g_zald hx hb hK hP 1 5 1 rfl rfl rfl h12 dX5_member_120 ?_
            refine lv_if_eq (tgt := 128) hx hb dX5_member_121 (by decide) (fun c13 => ?_) (fun c13 => ?_)
            · rw [if_pos c13] at hf
              refine lv_iconst (v := (0:Int32)) hx hb dX5_member_128 (by decide) ?_
              cases hf
              exact g_iret hx hb hr hlocks hP hS dX5_member_129
            · rw [if_neg c13] at hf
              refine lv_iconst (v := (1:Int32)) hx hb dX5_member_124 (by decide) ?_
              refine lv_goto (tgt := 129) hx hb dX5_member_125 (by decide) ?_
              cases hf
              exact g_iret hx hb hr hlocks hP hS dX5_member_129
          · rw [if_neg c11] at hf
            by_cases c14 : i2 = (5:Int32)
            · rw [if_pos c14] at hf
              refine lv_tableIn (tgt := 130) hx hb dX5_member_6 (by rw [c14]; decide) (by rw [c14]; decide) (by rw [c14]; rfl) (by decide) ?_
              refine lv_aload_n hx hb dX5_member_130 rfl (lv_at hl 0 rfl) ?_
              refine g_get (C := RX5) (T := TX5) (N := 8) hx hb hts iwX5_member_X5 hown hK hP 0 0 rfl rfl rfl 0 (Nat.le_of_ble_eq_true rfl) (hts _ kX5_member_0) (fun _ h9 => h9) rfl dX5_member_131 ?_
              refine g_get (C := RX3) (T := TX3) (N := 17) hx hb hts iwX5_member_X3 hown hK hP 1 0 rfl rfl rfl 10 (Nat.le_of_ble_eq_true rfl) (hts _ kX5_member_6) (fun _ h9 => h9) rfl dX5_member_134 ?_
              refine lv_iload_n hx hb dX5_member_137 rfl (lv_at hl 1 rfl) ?_
              obtain ⟨h15, hf⟩ := gi_some hf
              refine g_zald hx hb hK hP 1 6 1 rfl rfl rfl h15 dX5_member_138 ?_
              refine lv_if_eq (tgt := 146) hx hb dX5_member_139 (by decide) (fun c16 => ?_) (fun c16 => ?_)
              · rw [if_pos c16] at hf
                refine lv_iconst (v := (0:Int32)) hx hb dX5_member_146 (by decide) ?_
                cases hf
                exact g_iret hx hb hr hlocks hP hS dX5_member_147
              · rw [if_neg c16] at hf
                refine lv_iconst (v := (1:Int32)) hx hb dX5_member_142 (by decide) ?_
                refine lv_goto (tgt := 147) hx hb dX5_member_143 (by decide) ?_
                cases hf
                exact g_iret hx hb hr hlocks hP hS dX5_member_147
            · rw [if_neg c14] at hf
              by_cases c17 : i2 = (6:Int32)
              · rw [if_pos c17] at hf
                refine lv_tableIn (tgt := 148) hx hb dX5_member_6 (by rw [c17]; decide) (by rw [c17]; decide) (by rw [c17]; rfl) (by decide) ?_
                refine lv_aload_n hx hb dX5_member_148 rfl (lv_at hl 0 rfl) ?_
                refine g_get (C := RX5) (T := TX5) (N := 8) hx hb hts iwX5_member_X5 hown hK hP 0 0 rfl rfl rfl 0 (Nat.le_of_ble_eq_true rfl) (hts _ kX5_member_0) (fun _ h9 => h9) rfl dX5_member_149 ?_
                refine g_get (C := RX3) (T := TX3) (N := 17) hx hb hts iwX5_member_X3 hown hK hP 1 0 rfl rfl rfl 11 (Nat.le_of_ble_eq_true rfl) (hts _ kX5_member_7) (fun _ h9 => h9) rfl dX5_member_152 ?_
                refine lv_iload_n hx hb dX5_member_155 rfl (lv_at hl 1 rfl) ?_
                obtain ⟨h18, hf⟩ := gi_some hf
                refine g_iald hx hb hK hP 1 7 0 rfl rfl rfl h18 dX5_member_156 ?_
                cases hf
                exact g_iret hx hb hr hlocks hP hS dX5_member_157
              · rw [if_neg c17] at hf
                by_cases c19 : i2 = (7:Int32)
                · rw [if_pos c19] at hf
                  refine lv_tableIn (tgt := 158) hx hb dX5_member_6 (by rw [c19]; decide) (by rw [c19]; decide) (by rw [c19]; rfl) (by decide) ?_
                  refine lv_aload_n hx hb dX5_member_158 rfl (lv_at hl 0 rfl) ?_
                  refine g_get (C := RX5) (T := TX5) (N := 8) hx hb hts iwX5_member_X5 hown hK hP 0 0 rfl rfl rfl 0 (Nat.le_of_ble_eq_true rfl) (hts _ kX5_member_0) (fun _ h9 => h9) rfl dX5_member_159 ?_
                  refine g_get (C := RX3) (T := TX3) (N := 17) hx hb hts iwX5_member_X3 hown hK hP 1 0 rfl rfl rfl 12 (Nat.le_of_ble_eq_true rfl) (hts _ kX5_member_8) (fun _ h9 => h9) rfl dX5_member_162 ?_
                  refine lv_iload_n hx hb dX5_member_165 rfl (lv_at hl 1 rfl) ?_
                  obtain ⟨h20, hf⟩ := gi_some hf
                  refine g_iald hx hb hK hP 1 8 0 rfl rfl rfl h20 dX5_member_166 ?_
                  cases hf
                  exact g_iret hx hb hr hlocks hP hS dX5_member_167
                · rw [if_neg c19] at hf
                  by_cases c21 : i2 = (8:Int32)
                  · rw [if_pos c21] at hf
                    refine lv_tableIn (tgt := 168) hx hb dX5_member_6 (by rw [c21]; decide) (by rw [c21]; decide) (by rw [c21]; rfl) (by decide) ?_
                    refine lv_aload_n hx hb dX5_member_168 rfl (lv_at hl 0 rfl) ?_
                    refine g_get (C := RX5) (T := TX5) (N := 8) hx hb hts iwX5_member_X5 hown hK hP 0 0 rfl rfl rfl 0 (Nat.le_of_ble_eq_true rfl) (hts _ kX5_member_0) (fun _ h9 => h9) rfl dX5_member_169 ?_
                    refine g_get (C := RX3) (T := TX3) (N := 17) hx hb hts iwX5_member_X3 hown hK hP 1 0 rfl rfl rfl 13 (Nat.le_of_ble_eq_true rfl) (hts _ kX5_member_9) (fun _ h9 => h9) rfl dX5_member_172 ?_
                    refine lv_iload_n hx hb dX5_member_175 rfl (lv_at hl 1 rfl) ?_
                    obtain ⟨h22, hf⟩ := gi_some hf
                    refine g_iald hx hb hK hP 1 9 0 rfl rfl rfl h22 dX5_member_176 ?_
                    cases hf
                    exact g_iret hx hb hr hlocks hP hS dX5_member_177
                  · rw [if_neg c21] at hf
                    by_cases c23 : i2 = (9:Int32)
                    · rw [if_pos c23] at hf
                      refine lv_tableIn (tgt := 178) hx hb dX5_member_6 (by rw [c23]; decide) (by rw [c23]; decide) (by rw [c23]; rfl) (by decide) ?_
                      refine lv_aload_n hx hb dX5_member_178 rfl (lv_at hl 0 rfl) ?_
                      refine g_get (C := RX5) (T := TX5) (N := 8) hx hb hts iwX5_member_X5 hown hK hP 0 0 rfl rfl rfl 0 (Nat.le_of_ble_eq_true rfl) (hts _ kX5_member_0) (fun _ h9 => h9) rfl dX5_member_179 ?_
                      refine g_get (C := RX3) (T := TX3) (N := 17) hx hb hts iwX5_member_X3 hown hK hP 1 0 rfl rfl rfl 14 (Nat.le_of_ble_eq_true rfl) (hts _ kX5_member_10) (fun _ h9 => h9) rfl dX5_member_182 ?_
                      refine lv_iload_n hx hb dX5_member_185 rfl (lv_at hl 1 rfl) ?_
                      obtain ⟨h24, hf⟩ := gi_some hf
                      refine g_iald hx hb hK hP 1 10 0 rfl rfl rfl h24 dX5_member_186 ?_
                      cases hf
                      exact g_iret hx hb hr hlocks hP hS dX5_member_187
                    · rw [if_neg c23] at hf
                      by_cases c25 : i2 = (10:Int32)
                      · rw [if_pos c25] at hf
                        refine lv_tableIn (tgt := 188) hx hb dX5_member_6 (by rw [c25]; decide) (by rw [c25]; decide) (by rw [c25]; rfl) (by decide) ?_
                        refine lv_aload_n hx hb dX5_member_188 rfl (lv_at hl 0 rfl) ?_
                        refine g_get (C := RX5) (T := TX5) (N := 8) hx hb hts iwX5_member_X5 hown hK hP 0 0 rfl rfl rfl 0 (Nat.le_of_ble_eq_true rfl) (hts _ kX5_member_0) (fun _ h9 => h9) rfl dX5_member_189 ?_
                        refine g_get (C := RX3) (T := TX3) (N := 17) hx hb hts iwX5_member_X3 hown hK hP 1 0 rfl rfl rfl 15 (Nat.le_of_ble_eq_true rfl) (hts _ kX5_member_11) (fun _ h9 => h9) rfl dX5_member_192 ?_
                        refine lv_iload_n hx hb dX5_member_195 rfl (lv_at hl 1 rfl) ?_
                        obtain ⟨h26, hf⟩ := gi_some hf
                        refine g_iald hx hb hK hP 1 11 0 rfl rfl rfl h26 dX5_member_196 ?_
                        cases hf
                        exact g_iret hx hb hr hlocks hP hS dX5_member_197
                      · rw [if_neg c25] at hf
                        refine lv_tableOut (tgt := 198) hx hb dX5_member_6 (by have n0 := lv_neT c2 (a := 0) (by decide); have n1 := lv_neT c4 (a := 1) (by decide); have n2 := lv_neT c6 (a := 2) (by decide); have n3 := lv_neT c8 (a := 3) (by decide); have n4 := lv_neT c11 (a := 4) (by decide); have n5 := lv_neT c14 (a := 5) (by decide); have n6 := lv_neT c17 (a := 6) (by decide); have n7 := lv_neT c19 (a := 7) (by decide); have n8 := lv_neT c21 (a := 8) (by decide); have n9 := lv_neT c23 (a := 9) (by decide); have n10 := lv_neT c25 (a := 10) (by decide); omega) (by decide) ?_
                        cases hf
set_option maxHeartbeats 4000000 in
set_option maxRecDepth 100000 in
theorem c_X5_requireTwoMembers (l : Launch) (G : uG) (a0 : Nat → Nat) (a1 : Nat → Nat) (a2 : Nat → Nat) (a3 : Nat → Nat) (a4 : Nat → Nat) (a5 : Nat → Nat) (a6 : Nat → Nat) (a7 : Nat → Nat → Nat) (a8 : Nat → Nat) (a9 : Nat → Nat) (a10 : Nat → Nat) (a11 : Nat → Nat) (v1 : StV) (i1 : Int32) (i2 : Int32) {q : Unit × (Unit)} (hf : f_X5_requireTwoMembers v1 i1 i2 = some q) : mQ l yX5_requireTwoMembers wsX5_requireTwoMembers ({ frames := 2, cells := 0, slots := 0, locals := 42 } : Room) G [.ref (a0 0), .int i1, .int i2] [maW a0 (a1 0) (a2 0) (a3 0) (a4 0) (a7 0 0) (a8 0) (a9 0) (a9 1), stW G a1 v1] [maW a0 (a1 0) (a2 0) (a3 0) (a4 0) (a7 0 0) (a8 0) (a9 0) (a9 1), stW G a1 v1] (qV G [maW a0 (a1 0) (a2 0) (a3 0) (a4 0) (a7 0 0) (a8 0) (a9 0) (a9 1), stW G a1 v1] q.1) := by
  unfold f_X5_requireTwoMembers at hf
  refine m_of (cc := cX5_requireTwoMembers) (maxL := 3) (ret := none) (by decide) rfl rfl (Nat.le_of_ble_eq_true rfl) ?_
  intro p e s m args below meth c A ls S hK hA hP hD hS hl
  obtain ⟨hx, hb, hml, hown, hts, hr, hlocks⟩ := id S
  have hl : lv_has ls 3 [(0, .ref (a0 0)), (1, .int i1), (2, .int i2)] := hl
  refine lv_aload_n hx hb dX5_requireTwoMembers_0 rfl (lv_at hl 0 rfl) ?_
  refine lv_iload_n hx hb dX5_requireTwoMembers_1 rfl (lv_at hl 1 rfl) ?_
  obtain ⟨q1, hq1, hf⟩ := bd_some hf
  refine g_callVv S (As := [.int i1]) (gs' := [maW a0 (a1 0) (a2 0) (a3 0) (a4 0) (a7 0 0) (a8 0) (a9 0) (a9 1), stW G a1 v1]) (c_X5_requireMember l G a0 a1 a2 a3 a4 a5 a6 a7 a8 a9 a10 a11 v1 i1 hq1) (cwV 1 hts gX5_requireTwoMembers_X5_requireMember rfl rfl rfl hd_X5_requireMember ⟨Nat.le_of_ble_eq_true rfl, Nat.le_of_ble_eq_true rfl⟩) hK hP hD hS hA (is := [0, 1]) rfl rfl 0 rfl rfl rfl rfl hl.1 rfl (Nat.le_of_ble_eq_true rfl) dX5_requireTwoMembers_2 ⟨Nat.le_of_ble_eq_true rfl, Nat.le_of_ble_eq_true rfl⟩ rfl (fun H locs hP hD hS => ?_)
  refine lv_aload_n hx hb dX5_requireTwoMembers_5 rfl (lv_at hl 0 rfl) ?_
  refine lv_iload_n hx hb dX5_requireTwoMembers_6 rfl (lv_at hl 2 rfl) ?_
  obtain ⟨q2, hq2, hf⟩ := bd_some hf
  refine g_callVv S (As := [.int i2]) (gs' := [maW a0 (a1 0) (a2 0) (a3 0) (a4 0) (a7 0 0) (a8 0) (a9 0) (a9 1), stW G a1 v1]) (c_X5_requireMember l G a0 a1 a2 a3 a4 a5 a6 a7 a8 a9 a10 a11 v1 i2 hq2) (cwV 1 hts gX5_requireTwoMembers_X5_requireMember rfl rfl rfl hd_X5_requireMember ⟨Nat.le_of_ble_eq_true rfl, Nat.le_of_ble_eq_true rfl⟩) hK hP hD hS hA (is := [0, 1]) rfl rfl 0 rfl rfl rfl rfl hl.1 rfl (Nat.le_of_ble_eq_true rfl) dX5_requireTwoMembers_7 ⟨Nat.le_of_ble_eq_true rfl, Nat.le_of_ble_eq_true rfl⟩ rfl (fun H locs hP hD hS => ?_)
  refine lv_iload_n hx hb dX5_requireTwoMembers_10 rfl (lv_at hl 1 rfl) ?_
  refine lv_iload_n hx hb dX5_requireTwoMembers_11 rfl (lv_at hl 2 rfl) ?_
  refine lv_icmp_ne (tgt := 26) hx hb dX5_requireTwoMembers_12 (by decide) (fun c3 => ?_) (fun c3 => ?_)
  · rw [if_neg c3] at hf
    cases hf
    exact g_vret hx hb hr hlocks hP hS dX5_requireTwoMembers_26
  · rw [if_pos c3] at hf
    cases hf
theorem kX5_owes_0 : Cond.fieldLink RX5 10 "SavingsCircle" "now" "LSavingsCircle$State;" ∈ wsX5_owes := (List.mem_cons_of_mem _ (List.mem_append_left _ (List.mem_append_left _ (List.mem_append_left _ (List.mem_append_left _ (List.mem_of_getElem? (i := 0) rfl))))))
theorem kX5_owes_1 : Cond.fieldLink RX5 165 "SavingsCircle$State" "debt" "[I" ∈ wsX5_owes := (List.mem_cons_of_mem _ (List.mem_append_left _ (List.mem_append_left _ (List.mem_append_left _ (List.mem_append_left _ (List.mem_of_getElem? (i := 1) rfl))))))
theorem iwX5_owes_X5 : ∀ w ∈ wsX50, w ∈ wsX5_owes := fun w h => (List.mem_cons_of_mem _ (List.mem_append_left _ (List.mem_append_left _ (List.mem_append_left _ (List.mem_append_right _ h)))))
theorem iwX5_owes_X3 : ∀ w ∈ wsX30, w ∈ wsX5_owes := fun w h => (List.mem_cons_of_mem _ (List.mem_append_left _ (List.mem_append_left _ (List.mem_append_right _ h))))
set_option maxHeartbeats 4000000 in
set_option maxRecDepth 100000 in
theorem c_X5_owes (l : Launch) (G : uG) (a0 : Nat → Nat) (a1 : Nat → Nat) (a2 : Nat → Nat) (a3 : Nat → Nat) (a4 : Nat → Nat) (a5 : Nat → Nat) (a6 : Nat → Nat) (a7 : Nat → Nat → Nat) (a8 : Nat → Nat) (a9 : Nat → Nat) (a10 : Nat → Nat) (a11 : Nat → Nat) (v1 : StV) (i1 : Int32) (i2 : Int32) {q : Int32 × (Unit)} (hf : f_X5_owes v1 i1 i2 = some q) : mQ l yX5_owes wsX5_owes ({ frames := 3, cells := 0, slots := 0, locals := 64 } : Room) G [.ref (a0 0), .int i1, .int i2] [maW a0 (a1 0) (a2 0) (a3 0) (a4 0) (a7 0 0) (a8 0) (a9 0) (a9 1), stW G a1 v1] [maW a0 (a1 0) (a2 0) (a3 0) (a4 0) (a7 0 0) (a8 0) (a9 0) (a9 1), stW G a1 v1] (qI G [maW a0 (a1 0) (a2 0) (a3 0) (a4 0) (a7 0 0) (a8 0) (a9 0) (a9 1), stW G a1 v1] q.1) := by
  unfold f_X5_owes at hf
  refine m_of (cc := cX5_owes) (maxL := 3) (ret := (some .int)) (by decide) rfl rfl (Nat.le_of_ble_eq_true rfl) ?_
  intro p e s m args below meth c A ls S hK hA hP hD hS hl
  obtain ⟨hx, hb, hml, hown, hts, hr, hlocks⟩ := id S
  have hl : lv_has ls 3 [(0, .ref (a0 0)), (1, .int i1), (2, .int i2)] := hl
  refine lv_aload_n hx hb dX5_owes_0 rfl (lv_at hl 0 rfl) ?_
  refine lv_iload_n hx hb dX5_owes_1 rfl (lv_at hl 1 rfl) ?_
  refine lv_iload_n hx hb dX5_owes_2 rfl (lv_at hl 2 rfl) ?_
  obtain ⟨q1, hq1, hf⟩ := bd_some hf
  refine g_callVv S (As := [.int i1, .int i2]) (gs' := [maW a0 (a1 0) (a2 0) (a3 0) (a4 0) (a7 0 0) (a8 0) (a9 0) (a9 1), stW G a1 v1]) (c_X5_requireTwoMembers l G a0 a1 a2 a3 a4 a5 a6 a7 a8 a9 a10 a11 v1 i1 i2 hq1) (cwV 2 hts gX5_owes_X5_requireTwoMembers rfl rfl rfl hd_X5_requireTwoMembers ⟨Nat.le_of_ble_eq_true rfl, Nat.le_of_ble_eq_true rfl⟩) hK hP hD hS hA (is := [0, 1]) rfl rfl 0 rfl rfl rfl rfl hl.1 rfl (Nat.le_of_ble_eq_true rfl) dX5_owes_3 ⟨Nat.le_of_ble_eq_true rfl, Nat.le_of_ble_eq_true rfl⟩ rfl (fun H locs hP hD hS => ?_)
  refine lv_aload_n hx hb dX5_owes_6 rfl (lv_at hl 0 rfl) ?_
  refine g_get (C := RX5) (T := TX5) (N := 8) hx hb hts iwX5_owes_X5 hown hK hP 0 0 rfl rfl rfl 0 (Nat.le_of_ble_eq_true rfl) (hts _ kX5_owes_0) (fun _ h9 => h9) rfl dX5_owes_7 ?_
  refine g_get (C := RX3) (T := TX3) (N := 17) hx hb hts iwX5_owes_X3 hown hK hP 1 0 rfl rfl rfl 16 (Nat.le_of_ble_eq_true rfl) (hts _ kX5_owes_1) (fun _ h9 => h9) rfl dX5_owes_10 ?_
  refine lv_iload_n hx hb dX5_owes_13 rfl (lv_at hl 1 rfl) ?_
  refine lv_iload_n hx hb dX5_owes_14 rfl (lv_at hl 2 rfl) ?_
  obtain ⟨q2, hq2, hf⟩ := bd_some hf
  refine g_callSi S (As := [.int i1, .int i2]) (gs' := [maW a0 (a1 0) (a2 0) (a3 0) (a4 0) (a7 0 0) (a8 0) (a9 0) (a9 1), stW G a1 v1]) (c_X3_pair l G i1 i2 hq2) (va_cwS 2 hts gX5_owes_X3_pair rfl rfl rfl hd_X3_pair.2 ⟨Nat.le_of_ble_eq_true rfl, Nat.le_of_ble_eq_true rfl⟩) hK hP hD hS hA (is := []) rfl rfl rfl hl.1 rfl (Nat.le_of_ble_eq_true rfl) dX5_owes_15 ⟨Nat.le_of_ble_eq_true rfl, Nat.le_of_ble_eq_true rfl⟩ rfl (fun H locs hP hD hS => ?_)
  obtain ⟨h3, hf⟩ := gi_some hf
  refine g_iald hx hb hK hP 1 12 0 rfl rfl rfl h3 dX5_owes_18 ?_
  cases hf
  exact g_iret hx hb hr hlocks hP hS dX5_owes_19
theorem kX5_chain_0 : Cond.fieldLink RX5 10 "SavingsCircle" "now" "LSavingsCircle$State;" ∈ wsX5_chain := (List.mem_cons_of_mem _ (List.mem_append_left _ (List.mem_append_left _ (List.mem_append_left _ (List.mem_of_getElem? (i := 0) rfl)))))
theorem iwX5_chain_X5 : ∀ w ∈ wsX50, w ∈ wsX5_chain := fun w h => (List.mem_cons_of_mem _ (List.mem_append_left _ (List.mem_append_left _ (List.mem_append_right _ h))))
set_option maxHeartbeats 4000000 in
set_option maxRecDepth 100000 in
theorem c_X5_chain (l : Launch) (G : uG) (a0 : Nat → Nat) (a1 : Nat → Nat) (a2 : Nat → Nat) (a3 : Nat → Nat) (a4 : Nat → Nat) (a5 : Nat → Nat) (a6 : Nat → Nat) (a7 : Nat → Nat → Nat) (a8 : Nat → Nat) (a9 : Nat → Nat) (a10 : Nat → Nat) (a11 : Nat → Nat) (v1 : StV) (i1 : Int32) {q : Int32 × (Unit)} (hf : f_X5_chain v1 i1 = some q) : mQ l yX5_chain wsX5_chain ({ frames := 2, cells := 0, slots := 0, locals := 45 } : Room) G [.ref (a0 0), .int i1] [maW a0 (a1 0) (a2 0) (a3 0) (a4 0) (a7 0 0) (a8 0) (a9 0) (a9 1), stW G a1 v1] [maW a0 (a1 0) (a2 0) (a3 0) (a4 0) (a7 0 0) (a8 0) (a9 0) (a9 1), stW G a1 v1] (qI G [maW a0 (a1 0) (a2 0) (a3 0) (a4 0) (a7 0 0) (a8 0) (a9 0) (a9 1), stW G a1 v1] q.1) := by
  unfold f_X5_chain at hf
  refine m_of (cc := cX5_chain) (maxL := 2) (ret := (some .int)) (by decide) rfl rfl (Nat.le_of_ble_eq_true rfl) ?_
  intro p e s m args below meth c A ls S hK hA hP hD hS hl
  obtain ⟨hx, hb, hml, hown, hts, hr, hlocks⟩ := id S
  have hl : lv_has ls 2 [(0, .ref (a0 0)), (1, .int i1)] := hl
  refine lv_aload_n hx hb dX5_chain_0 rfl (lv_at hl 0 rfl) ?_
  refine lv_iload_n hx hb dX5_chain_1 rfl (lv_at hl 1 rfl) ?_
  obtain ⟨q1, hq1, hf⟩ := bd_some hf
  refine g_callVv S (As := [.int i1]) (gs' := [maW a0 (a1 0) (a2 0) (a3 0) (a4 0) (a7 0 0) (a8 0) (a9 0) (a9 1), stW G a1 v1]) (c_X5_requireMember l G a0 a1 a2 a3 a4 a5 a6 a7 a8 a9 a10 a11 v1 i1 hq1) (cwV 1 hts gX5_chain_X5_requireMember rfl rfl rfl hd_X5_requireMember ⟨Nat.le_of_ble_eq_true rfl, Nat.le_of_ble_eq_true rfl⟩) hK hP hD hS hA (is := [0, 1]) rfl rfl 0 rfl rfl rfl rfl hl.1 rfl (Nat.le_of_ble_eq_true rfl) dX5_chain_2 ⟨Nat.le_of_ble_eq_true rfl, Nat.le_of_ble_eq_true rfl⟩ rfl (fun H locs hP hD hS => ?_)
  refine lv_aload_n hx hb dX5_chain_5 rfl (lv_at hl 0 rfl) ?_
  refine g_get (C := RX5) (T := TX5) (N := 8) hx hb hts iwX5_chain_X5 hown hK hP 0 0 rfl rfl rfl 0 (Nat.le_of_ble_eq_true rfl) (hts _ kX5_chain_0) (fun _ h9 => h9) rfl dX5_chain_6 ?_
  refine lv_iload_n hx hb dX5_chain_9 rfl (lv_at hl 1 rfl) ?_
  obtain ⟨q2, hq2, hf⟩ := bd_some hf
  refine g_callVi S (As := [.int i1]) (gs' := [maW a0 (a1 0) (a2 0) (a3 0) (a4 0) (a7 0 0) (a8 0) (a9 0) (a9 1), stW G a1 v1]) (c_X3_chainLength l G a1 v1 i1 hq2) (cwV 1 hts gX5_chain_X3_chainLength rfl rfl rfl hd_X3_chainLength ⟨Nat.le_of_ble_eq_true rfl, Nat.le_of_ble_eq_true rfl⟩) hK hP hD hS hA (is := [1]) rfl rfl 1 rfl rfl rfl rfl hl.1 rfl (Nat.le_of_ble_eq_true rfl) dX5_chain_10 ⟨Nat.le_of_ble_eq_true rfl, Nat.le_of_ble_eq_true rfl⟩ rfl (fun H locs hP hD hS => ?_)
  cases hf
  exact g_iret hx hb hr hlocks hP hS dX5_chain_13
set_option maxHeartbeats 4000000 in
set_option maxRecDepth 100000 in
theorem c_X5_requireRange (l : Launch) (G : uG) (i0 : Int32) (i1 : Int32) (i2 : Int32) {q : Unit × (Unit)} (hf : f_X5_requireRange i0 i1 i2 = some q) : mQ l yX5_requireRange wsX5_requireRange ({ frames := 0, cells := 0, slots := 0, locals := 0 } : Room) G [.int i0, .int i1, .int i2] [] [] (qV G [] q.1) := by
  unfold f_X5_requireRange at hf
  refine m_of (cc := cX5_requireRange) (maxL := 3) (ret := none) (by decide) rfl rfl (Nat.le_of_ble_eq_true rfl) ?_
  intro p e s m args below meth c A ls S hK hA hP hD hS hl
  obtain ⟨hx, hb, hml, hown, hts, hr, hlocks⟩ := id S
  have hl : lv_has ls 3 [(0, .int i0), (1, .int i1), (2, .int i2)] := hl
  refine lv_iload_n hx hb dX5_requireRange_0 rfl (lv_at hl 0 rfl) ?_
  refine lv_iload_n hx hb dX5_requireRange_1 rfl (lv_at hl 1 rfl) ?_
  refine lv_icmp_lt (tgt := 10) hx hb dX5_requireRange_2 (by decide) (fun c1 => ?_) (fun c1 => ?_)
  · rw [if_pos c1] at hf
    cases hf
  · rw [if_neg c1] at hf
    refine lv_iload_n hx hb dX5_requireRange_5 rfl (lv_at hl 0 rfl) ?_
    refine lv_iload_n hx hb dX5_requireRange_6 rfl (lv_at hl 2 rfl) ?_
    refine lv_icmp_le (tgt := 21) hx hb dX5_requireRange_7 (by decide) (fun c2 => ?_) (fun c2 => ?_)
    · rw [if_pos c2] at hf
      cases hf
      exact g_vret hx hb hr hlocks hP hS dX5_requireRange_21
    · rw [if_neg c2] at hf
      cases hf
theorem kX5_addMember_0 : Cond.fieldLink RX5 10 "SavingsCircle" "now" "LSavingsCircle$State;" ∈ wsX5_addMember := (List.mem_cons_of_mem _ (List.mem_append_left _ (List.mem_append_left _ (List.mem_append_left _ (List.mem_append_left _ (List.mem_append_left _ (List.mem_append_left _ (List.mem_of_getElem? (i := 2) rfl))))))))
theorem kX5_addMember_1 : Cond.fieldLink RX5 88 "SavingsCircle$State" "count" "I" ∈ wsX5_addMember := (List.mem_cons_of_mem _ (List.mem_append_left _ (List.mem_append_left _ (List.mem_append_left _ (List.mem_append_left _ (List.mem_append_left _ (List.mem_append_left _ (List.mem_of_getElem? (i := 3) rfl))))))))
theorem kX5_addMember_2 : Cond.fieldLink RX5 36 "SavingsCircle" "past" "LSavingsCircle$Past;" ∈ wsX5_addMember := (List.mem_cons_of_mem _ (List.mem_append_left _ (List.mem_append_left _ (List.mem_append_left _ (List.mem_append_left _ (List.mem_append_left _ (List.mem_append_left _ (List.mem_of_getElem? (i := 4) rfl))))))))
theorem iwX5_addMember_X5 : ∀ w ∈ wsX50, w ∈ wsX5_addMember := fun w h => (List.mem_cons_of_mem _ (List.mem_append_left _ (List.mem_append_left _ (List.mem_append_left _ (List.mem_append_left _ (List.mem_append_right _ h))))))
theorem iwX5_addMember_X3 : ∀ w ∈ wsX30, w ∈ wsX5_addMember := fun w h => (List.mem_cons_of_mem _ (List.mem_append_left _ (List.mem_append_left _ (List.mem_append_left _ (List.mem_append_right _ h)))))
set_option maxHeartbeats 4000000 in
set_option maxRecDepth 100000 in
theorem c_X5_addMember (l : Launch) (G : uG) (a0 : Nat → Nat) (a1 : Nat → Nat) (a2 : Nat → Nat) (a3 : Nat → Nat) (a4 : Nat → Nat) (a5 : Nat → Nat) (a6 : Nat → Nat) (a7 : Nat → Nat → Nat) (a8 : Nat → Nat) (a9 : Nat → Nat) (a10 : Nat → Nat) (a11 : Nat → Nat) (v1 : StV) (v7 : PaV) (i1 : Int32) {q : Int32 × (StV × PaV)} (hf : f_X5_addMember v1 v7 i1 = some q) : mQ l yX5_addMember wsX5_addMember ({ frames := 2, cells := 0, slots := 0, locals := 43 } : Room) G [.ref (a0 0), .int i1] [maW a0 (a1 0) (a2 0) (a3 0) (a4 0) (a7 0 0) (a8 0) (a9 0) (a9 1), stW G a1 v1, paW G a7 v7] [maW a0 (a1 0) (a2 0) (a3 0) (a4 0) (a7 0 0) (a8 0) (a9 0) (a9 1), stW G a1 q.2.1, paW G a7 q.2.2] (qI G [maW a0 (a1 0) (a2 0) (a3 0) (a4 0) (a7 0 0) (a8 0) (a9 0) (a9 1), stW G a1 q.2.1, paW G a7 q.2.2] q.1) := by
  unfold f_X5_addMember at hf
  refine m_of (cc := cX5_addMember) (maxL := 2) (ret := (some .int)) (by decide) rfl rfl (Nat.le_of_ble_eq_true rfl) ?_
  intro p e s m args below meth c A ls S hK hA hP hD hS hl
  obtain ⟨hx, hb, hml, hown, hts, hr, hlocks⟩ := id S
  have hl : lv_has ls 2 [(0, .ref (a0 0)), (1, .int i1)] := hl
  refine lv_iload_n hx hb dX5_addMember_0 rfl (lv_at hl 1 rfl) ?_
  refine lv_iconst (v := (0:Int32)) hx hb dX5_addMember_1 (by decide) ?_
  refine lv_sipush (v := (999:Int32)) hx hb dX5_addMember_2 (by decide) ?_
  obtain ⟨q1, hq1, hf⟩ := bd_some hf
  refine g_callSv S (As := [.int i1, .int (0:Int32), .int (999:Int32)]) (gs' := [maW a0 (a1 0) (a2 0) (a3 0) (a4 0) (a7 0 0) (a8 0) (a9 0) (a9 1), stW G a1 v1, paW G a7 v7]) (c_X5_requireRange l G i1 (0:Int32) (999:Int32) hq1) (va_cwS 3 hts gX5_addMember_X5_requireRange rfl rfl rfl hd_X5_requireRange.2 ⟨Nat.le_of_ble_eq_true rfl, Nat.le_of_ble_eq_true rfl⟩) hK hP hD hS hA (is := []) rfl rfl rfl hl.1 rfl (Nat.le_of_ble_eq_true rfl) dX5_addMember_5 ⟨Nat.le_of_ble_eq_true rfl, Nat.le_of_ble_eq_true rfl⟩ rfl (fun H locs hP hD hS => ?_)
  refine lv_aload_n hx hb dX5_addMember_8 rfl (lv_at hl 0 rfl) ?_
  refine g_get (C := RX5) (T := TX5) (N := 8) hx hb hts iwX5_addMember_X5 hown hK hP 0 0 rfl rfl rfl 0 (Nat.le_of_ble_eq_true rfl) (hts _ kX5_addMember_0) (fun _ h9 => h9) rfl dX5_addMember_9 ?_
  refine g_get (C := RX3) (T := TX3) (N := 17) hx hb hts iwX5_addMember_X3 hown hK hP 1 0 rfl rfl rfl 0 (Nat.le_of_ble_eq_true rfl) (hts _ kX5_addMember_1) (fun _ h9 => h9) rfl dX5_addMember_12 ?_
  refine lv_bipush (v := (8:Int32)) hx hb dX5_addMember_15 (by decide) ?_
  refine lv_icmp_lt (tgt := 30) hx hb dX5_addMember_17 (by decide) (fun c2 => ?_) (fun c2 => ?_)
  · rw [if_pos c2] at hf
    refine lv_aload_n hx hb dX5_addMember_30 rfl (lv_at hl 0 rfl) ?_
    refine g_get (C := RX5) (T := TX5) (N := 8) hx hb hts iwX5_addMember_X5 hown hK hP 0 0 rfl rfl rfl 4 (Nat.le_of_ble_eq_true rfl) (hts _ kX5_addMember_2) (fun _ h9 => h9) rfl dX5_addMember_31 ?_
    refine lv_aload_n hx hb dX5_addMember_34 rfl (lv_at hl 0 rfl) ?_
    refine g_get (C := RX5) (T := TX5) (N := 8) hx hb hts iwX5_addMember_X5 hown hK hP 0 0 rfl rfl rfl 0 (Nat.le_of_ble_eq_true rfl) (hts _ kX5_addMember_0) (fun _ h9 => h9) rfl dX5_addMember_35 ?_
    obtain ⟨q3, hq3, hf⟩ := bd_some hf
    refine g_callVv S (As := [.ref (a1 0)]) (gs' := [maW a0 (a1 0) (a2 0) (a3 0) (a4 0) (a7 0 0) (a8 0) (a9 0) (a9 1), stW G a1 v1, paW G a7 q3.2]) (c_X0_remember l G a7 a1 v7 v1 hq3) (cwV 1 hts gX5_addMember_X0_remember rfl rfl rfl hd_X0_remember ⟨Nat.le_of_ble_eq_true rfl, Nat.le_of_ble_eq_true rfl⟩) hK hP hD hS hA (is := [2, 1]) rfl rfl 2 rfl rfl rfl rfl hl.1 rfl (Nat.le_of_ble_eq_true rfl) dX5_addMember_38 ⟨Nat.le_of_ble_eq_true rfl, Nat.le_of_ble_eq_true rfl⟩ rfl (fun H locs hP hD hS => ?_)
    refine lv_aload_n hx hb dX5_addMember_41 rfl (lv_at hl 0 rfl) ?_
    refine g_get (C := RX5) (T := TX5) (N := 8) hx hb hts iwX5_addMember_X5 hown hK hP 0 0 rfl rfl rfl 0 (Nat.le_of_ble_eq_true rfl) (hts _ kX5_addMember_0) (fun _ h9 => h9) rfl dX5_addMember_42 ?_
    refine lv_iload_n hx hb dX5_addMember_45 rfl (lv_at hl 1 rfl) ?_
    obtain ⟨q4, hq4, hf⟩ := bd_some hf
    refine g_callVi S (As := [.int i1]) (gs' := [maW a0 (a1 0) (a2 0) (a3 0) (a4 0) (a7 0 0) (a8 0) (a9 0) (a9 1), stW G a1 q4.2, paW G a7 q3.2]) (c_X3_join l G a1 v1 i1 hq4) (cwV 1 hts gX5_addMember_X3_join rfl rfl rfl hd_X3_join ⟨Nat.le_of_ble_eq_true rfl, Nat.le_of_ble_eq_true rfl⟩) hK hP hD hS hA (is := [1]) rfl rfl 1 rfl rfl rfl rfl hl.1 rfl (Nat.le_of_ble_eq_true rfl) dX5_addMember_46 ⟨Nat.le_of_ble_eq_true rfl, Nat.le_of_ble_eq_true rfl⟩ rfl (fun H locs hP hD hS => ?_)
    cases hf
    exact g_iret hx hb hr hlocks hP hS dX5_addMember_49
  · rw [if_neg c2] at hf
    cases hf
theorem kX5_setContribution_0 : Cond.fieldLink RX5 36 "SavingsCircle" "past" "LSavingsCircle$Past;" ∈ wsX5_setContribution := (List.mem_cons_of_mem _ (List.mem_append_left _ (List.mem_append_left _ (List.mem_append_left _ (List.mem_append_left _ (List.mem_append_left _ (List.mem_of_getElem? (i := 0) rfl)))))))
theorem kX5_setContribution_1 : Cond.fieldLink RX5 10 "SavingsCircle" "now" "LSavingsCircle$State;" ∈ wsX5_setContribution := (List.mem_cons_of_mem _ (List.mem_append_left _ (List.mem_append_left _ (List.mem_append_left _ (List.mem_append_left _ (List.mem_append_left _ (List.mem_of_getElem? (i := 1) rfl)))))))
theorem kX5_setContribution_2 : Cond.fieldLink RX5 98 "SavingsCircle$State" "contribution" "I" ∈ wsX5_setContribution := (List.mem_cons_of_mem _ (List.mem_append_left _ (List.mem_append_left _ (List.mem_append_left _ (List.mem_append_left _ (List.mem_append_left _ (List.mem_of_getElem? (i := 2) rfl)))))))
theorem iwX5_setContribution_X5 : ∀ w ∈ wsX50, w ∈ wsX5_setContribution := fun w h => (List.mem_cons_of_mem _ (List.mem_append_left _ (List.mem_append_left _ (List.mem_append_left _ (List.mem_append_right _ h)))))
theorem iwX5_setContribution_X3 : ∀ w ∈ wsX30, w ∈ wsX5_setContribution := fun w h => (List.mem_cons_of_mem _ (List.mem_append_left _ (List.mem_append_left _ (List.mem_append_right _ h))))
set_option maxHeartbeats 4000000 in
set_option maxRecDepth 100000 in
theorem c_X5_setContribution (l : Launch) (G : uG) (a0 : Nat → Nat) (a1 : Nat → Nat) (a2 : Nat → Nat) (a3 : Nat → Nat) (a4 : Nat → Nat) (a5 : Nat → Nat) (a6 : Nat → Nat) (a7 : Nat → Nat → Nat) (a8 : Nat → Nat) (a9 : Nat → Nat) (a10 : Nat → Nat) (a11 : Nat → Nat) (v1 : StV) (v7 : PaV) (i1 : Int32) {q : Int32 × (StV × PaV)} (hf : f_X5_setContribution v1 v7 i1 = some q) : mQ l yX5_setContribution wsX5_setContribution ({ frames := 2, cells := 0, slots := 0, locals := 43 } : Room) G [.ref (a0 0), .int i1] [maW a0 (a1 0) (a2 0) (a3 0) (a4 0) (a7 0 0) (a8 0) (a9 0) (a9 1), stW G a1 v1, paW G a7 v7] [maW a0 (a1 0) (a2 0) (a3 0) (a4 0) (a7 0 0) (a8 0) (a9 0) (a9 1), stW G a1 q.2.1, paW G a7 q.2.2] (qI G [maW a0 (a1 0) (a2 0) (a3 0) (a4 0) (a7 0 0) (a8 0) (a9 0) (a9 1), stW G a1 q.2.1, paW G a7 q.2.2] q.1) := by
  unfold f_X5_setContribution at hf
  refine m_of (cc := cX5_setContribution) (maxL := 3) (ret := (some .int)) (by decide) rfl rfl (Nat.le_of_ble_eq_true rfl) ?_
  intro p e s m args below meth c A ls S hK hA hP hD hS hl
  obtain ⟨hx, hb, hml, hown, hts, hr, hlocks⟩ := id S
  have hl : lv_has ls 3 [(0, .ref (a0 0)), (1, .int i1)] := hl
  refine lv_iload_n hx hb dX5_setContribution_0 rfl (lv_at hl 1 rfl) ?_
  refine lv_iconst (v := (1:Int32)) hx hb dX5_setContribution_1 (by decide) ?_
  refine lv_bipush (v := (50:Int32)) hx hb dX5_setContribution_2 (by decide) ?_
  obtain ⟨q1, hq1, hf⟩ := bd_some hf
  refine g_callSv S (As := [.int i1, .int (1:Int32), .int (50:Int32)]) (gs' := [maW a0 (a1 0) (a2 0) (a3 0) (a4 0) (a7 0 0) (a8 0) (a9 0) (a9 1), stW G a1 v1, paW G a7 v7]) (c_X5_requireRange l G i1 (1:Int32) (50:Int32) hq1) (va_cwS 3 hts gX5_setContribution_X5_requireRange rfl rfl rfl hd_X5_requireRange.2 ⟨Nat.le_of_ble_eq_true rfl, Nat.le_of_ble_eq_true rfl⟩) hK hP hD hS hA (is := []) rfl rfl rfl hl.1 rfl (Nat.le_of_ble_eq_true rfl) dX5_setContribution_4 ⟨Nat.le_of_ble_eq_true rfl, Nat.le_of_ble_eq_true rfl⟩ rfl (fun H locs hP hD hS => ?_)
  refine lv_aload_n hx hb dX5_setContribution_7 rfl (lv_at hl 0 rfl) ?_
  refine g_get (C := RX5) (T := TX5) (N := 8) hx hb hts iwX5_setContribution_X5 hown hK hP 0 0 rfl rfl rfl 4 (Nat.le_of_ble_eq_true rfl) (hts _ kX5_setContribution_0) (fun _ h9 => h9) rfl dX5_setContribution_8 ?_
  refine lv_aload_n hx hb dX5_setContribution_11 rfl (lv_at hl 0 rfl) ?_
  refine g_get (C := RX5) (T := TX5) (N := 8) hx hb hts iwX5_setContribution_X5 hown hK hP 0 0 rfl rfl rfl 0 (Nat.le_of_ble_eq_true rfl) (hts _ kX5_setContribution_1) (fun _ h9 => h9) rfl dX5_setContribution_12 ?_
  obtain ⟨q2, hq2, hf⟩ := bd_some hf
  refine g_callVv S (As := [.ref (a1 0)]) (gs' := [maW a0 (a1 0) (a2 0) (a3 0) (a4 0) (a7 0 0) (a8 0) (a9 0) (a9 1), stW G a1 v1, paW G a7 q2.2]) (c_X0_remember l G a7 a1 v7 v1 hq2) (cwV 1 hts gX5_setContribution_X0_remember rfl rfl rfl hd_X0_remember ⟨Nat.le_of_ble_eq_true rfl, Nat.le_of_ble_eq_true rfl⟩) hK hP hD hS hA (is := [2, 1]) rfl rfl 2 rfl rfl rfl rfl hl.1 rfl (Nat.le_of_ble_eq_true rfl) dX5_setContribution_15 ⟨Nat.le_of_ble_eq_true rfl, Nat.le_of_ble_eq_true rfl⟩ rfl (fun H locs hP hD hS => ?_)
  refine lv_aload_n hx hb dX5_setContribution_18 rfl (lv_at hl 0 rfl) ?_
  refine g_get (C := RX5) (T := TX5) (N := 8) hx hb hts iwX5_setContribution_X5 hown hK hP 0 0 rfl rfl rfl 0 (Nat.le_of_ble_eq_true rfl) (hts _ kX5_setContribution_1) (fun _ h9 => h9) rfl dX5_setContribution_19 ?_
  refine g_get (C := RX3) (T := TX3) (N := 17) hx hb hts iwX5_setContribution_X3 hown hK hP 1 0 rfl rfl rfl 2 (Nat.le_of_ble_eq_true rfl) (hts _ kX5_setContribution_2) (fun _ h9 => h9) rfl dX5_setContribution_22 ?_
  obtain ⟨x3, ex3, hf⟩ := lt_some hf
  refine lv_nmi ex3 ?_
  refine lv_istore_n (lv' := [(2, .int x3), (0, .ref (a0 0)), (1, .int i1)]) hx hb dX5_setContribution_25 rfl hl (by decide) rfl (fun ls hl => ?_)
  refine lv_aload_n hx hb dX5_setContribution_26 rfl (lv_at hl 1 rfl) ?_
  refine g_get (C := RX5) (T := TX5) (N := 8) hx hb hts iwX5_setContribution_X5 hown hK hP 0 0 rfl rfl rfl 0 (Nat.le_of_ble_eq_true rfl) (hts _ kX5_setContribution_1) (fun _ h9 => h9) rfl dX5_setContribution_27 ?_
  refine lv_iload_n hx hb dX5_setContribution_30 rfl (lv_at hl 2 rfl) ?_
  obtain ⟨u4, eu4, hf⟩ := lt_some hf
  refine g_put (ty := .int) (C := RX3) (T := TX3) (N := 17) (gs' := [maW a0 (a1 0) (a2 0) (a3 0) (a4 0) (a7 0 0) (a8 0) (a9 0) (a9 1), stW G a1 u4, paW G a7 q2.2]) hx hb hts iwX5_setContribution_X3 tyX3 tyX3_ok nmX3 hown hK hP hD hS 1 0 rfl rfl rfl 2 (Nat.le_of_ble_eq_true rfl) (hts _ kX5_setContribution_2) (fun _ h9 => h9) rfl (by decide +kernel) rfl rfl (Nat.le_of_ble_eq_true rfl) dX5_setContribution_31 (by rw [eu4]; rfl) (fun H locs hP hD hS => ?_)
  refine lv_iload_n hx hb dX5_setContribution_34 rfl (lv_at hl 0 rfl) ?_
  cases hf
  exact g_iret hx hb hr hlocks hP hS dX5_setContribution_35
theorem kX5_setGuarantor_0 : Cond.constant RX5 78 (-99999) ∈ wsX5_setGuarantor := (List.mem_cons_of_mem _ (List.mem_append_left _ (List.mem_append_left _ (List.mem_append_left _ (List.mem_append_left _ (List.mem_append_left _ (List.mem_append_left _ (List.mem_of_getElem? (i := 0) rfl))))))))
theorem kX5_setGuarantor_1 : Cond.fieldLink RX5 36 "SavingsCircle" "past" "LSavingsCircle$Past;" ∈ wsX5_setGuarantor := (List.mem_cons_of_mem _ (List.mem_append_left _ (List.mem_append_left _ (List.mem_append_left _ (List.mem_append_left _ (List.mem_append_left _ (List.mem_append_left _ (List.mem_of_getElem? (i := 1) rfl))))))))
theorem kX5_setGuarantor_2 : Cond.fieldLink RX5 10 "SavingsCircle" "now" "LSavingsCircle$State;" ∈ wsX5_setGuarantor := (List.mem_cons_of_mem _ (List.mem_append_left _ (List.mem_append_left _ (List.mem_append_left _ (List.mem_append_left _ (List.mem_append_left _ (List.mem_append_left _ (List.mem_of_getElem? (i := 2) rfl))))))))
theorem kX5_setGuarantor_3 : Cond.fieldLink RX5 129 "SavingsCircle$State" "guarantor" "[I" ∈ wsX5_setGuarantor := (List.mem_cons_of_mem _ (List.mem_append_left _ (List.mem_append_left _ (List.mem_append_left _ (List.mem_append_left _ (List.mem_append_left _ (List.mem_append_left _ (List.mem_of_getElem? (i := 3) rfl))))))))
theorem iwX5_setGuarantor_X5 : ∀ w ∈ wsX50, w ∈ wsX5_setGuarantor := fun w h => (List.mem_cons_of_mem _ (List.mem_append_left _ (List.mem_append_left _ (List.mem_append_left _ (List.mem_append_left _ (List.mem_append_right _ h))))))
theorem iwX5_setGuarantor_X3 : ∀ w ∈ wsX30, w ∈ wsX5_setGuarantor := fun w h => (List.mem_cons_of_mem _ (List.mem_append_left _ (List.mem_append_left _ (List.mem_append_left _ (List.mem_append_right _ h)))))
set_option maxHeartbeats 4000000 in
set_option maxRecDepth 100000 in
theorem c_X5_setGuarantor (l : Launch) (G : uG) (a0 : Nat → Nat) (a1 : Nat → Nat) (a2 : Nat → Nat) (a3 : Nat → Nat) (a4 : Nat → Nat) (a5 : Nat → Nat) (a6 : Nat → Nat) (a7 : Nat → Nat → Nat) (a8 : Nat → Nat) (a9 : Nat → Nat) (a10 : Nat → Nat) (a11 : Nat → Nat) (v1 : StV) (v7 : PaV) (i1 : Int32) (i2 : Int32) {q : Int32 × (StV × PaV)} (hf : f_X5_setGuarantor v1 v7 i1 i2 = some q) : mQ l yX5_setGuarantor wsX5_setGuarantor ({ frames := 3, cells := 0, slots := 0, locals := 64 } : Room) G [.ref (a0 0), .int i1, .int i2] [maW a0 (a1 0) (a2 0) (a3 0) (a4 0) (a7 0 0) (a8 0) (a9 0) (a9 1), stW G a1 v1, paW G a7 v7] [maW a0 (a1 0) (a2 0) (a3 0) (a4 0) (a7 0 0) (a8 0) (a9 0) (a9 1), stW G a1 q.2.1, paW G a7 q.2.2] (qI G [maW a0 (a1 0) (a2 0) (a3 0) (a4 0) (a7 0 0) (a8 0) (a9 0) (a9 1), stW G a1 q.2.1, paW G a7 q.2.2] q.1) := by
  unfold f_X5_setGuarantor at hf
  refine m_of (cc := cX5_setGuarantor) (maxL := 4) (ret := (some .int)) (by decide) rfl rfl (Nat.le_of_ble_eq_true rfl) ?_
  intro p e s m args below meth c A ls S hK hA hP hD hS hl
  obtain ⟨hx, hb, hml, hown, hts, hr, hlocks⟩ := id S
  have hl : lv_has ls 4 [(0, .ref (a0 0)), (1, .int i1), (2, .int i2)] := hl
  refine lv_iload_n hx hb dX5_setGuarantor_0 rfl (lv_at hl 2 rfl) ?_
  refine lv_ldc (v := (-99999:Int32)) hx hb hown (hts _ kX5_setGuarantor_0) dX5_setGuarantor_1 ?_
  refine lv_icmp_ne (tgt := 14) hx hb dX5_setGuarantor_3 (by decide) (fun c1 => ?_) (fun c1 => ?_)
  · rw [if_neg c1] at hf
    refine lv_aload_n hx hb dX5_setGuarantor_14 rfl (lv_at hl 0 rfl) ?_
    refine lv_iload_n hx hb dX5_setGuarantor_15 rfl (lv_at hl 1 rfl) ?_
    refine lv_iload_n hx hb dX5_setGuarantor_16 rfl (lv_at hl 2 rfl) ?_
    obtain ⟨q2, hq2, hf⟩ := bd_some hf
    refine g_callVv S (As := [.int i1, .int i2]) (gs' := [maW a0 (a1 0) (a2 0) (a3 0) (a4 0) (a7 0 0) (a8 0) (a9 0) (a9 1), stW G a1 v1, paW G a7 v7]) (c_X5_requireTwoMembers l G a0 a1 a2 a3 a4 a5 a6 a7 a8 a9 a10 a11 v1 i1 i2 hq2) (cwV 2 hts gX5_setGuarantor_X5_requireTwoMembers rfl rfl rfl hd_X5_requireTwoMembers ⟨Nat.le_of_ble_eq_true rfl, Nat.le_of_ble_eq_true rfl⟩) hK hP hD hS hA (is := [0, 1]) rfl rfl 0 rfl rfl rfl rfl hl.1 rfl (Nat.le_of_ble_eq_true rfl) dX5_setGuarantor_17 ⟨Nat.le_of_ble_eq_true rfl, Nat.le_of_ble_eq_true rfl⟩ rfl (fun H locs hP hD hS => ?_)
    refine lv_aload_n hx hb dX5_setGuarantor_20 rfl (lv_at hl 0 rfl) ?_
    refine g_get (C := RX5) (T := TX5) (N := 8) hx hb hts iwX5_setGuarantor_X5 hown hK hP 0 0 rfl rfl rfl 4 (Nat.le_of_ble_eq_true rfl) (hts _ kX5_setGuarantor_1) (fun _ h9 => h9) rfl dX5_setGuarantor_21 ?_
    refine lv_aload_n hx hb dX5_setGuarantor_24 rfl (lv_at hl 0 rfl) ?_
    refine g_get (C := RX5) (T := TX5) (N := 8) hx hb hts iwX5_setGuarantor_X5 hown hK hP 0 0 rfl rfl rfl 0 (Nat.le_of_ble_eq_true rfl) (hts _ kX5_setGuarantor_2) (fun _ h9 => h9) rfl dX5_setGuarantor_25 ?_
    obtain ⟨q3, hq3, hf⟩ := bd_some hf
    refine g_callVv S (As := [.ref (a1 0)]) (gs' := [maW a0 (a1 0) (a2 0) (a3 0) (a4 0) (a7 0 0) (a8 0) (a9 0) (a9 1), stW G a1 v1, paW G a7 q3.2]) (c_X0_remember l G a7 a1 v7 v1 hq3) (cwV 1 hts gX5_setGuarantor_X0_remember rfl rfl rfl hd_X0_remember ⟨Nat.le_of_ble_eq_true rfl, Nat.le_of_ble_eq_true rfl⟩) hK hP hD hS hA (is := [2, 1]) rfl rfl 2 rfl rfl rfl rfl hl.1 rfl (Nat.le_of_ble_eq_true rfl) dX5_setGuarantor_28 ⟨Nat.le_of_ble_eq_true rfl, Nat.le_of_ble_eq_true rfl⟩ rfl (fun H locs hP hD hS => ?_)
    refine lv_aload_n hx hb dX5_setGuarantor_31 rfl (lv_at hl 0 rfl) ?_
    refine g_get (C := RX5) (T := TX5) (N := 8) hx hb hts iwX5_setGuarantor_X5 hown hK hP 0 0 rfl rfl rfl 0 (Nat.le_of_ble_eq_true rfl) (hts _ kX5_setGuarantor_2) (fun _ h9 => h9) rfl dX5_setGuarantor_32 ?_
    refine g_get (C := RX3) (T := TX3) (N := 17) hx hb hts iwX5_setGuarantor_X3 hown hK hP 1 0 rfl rfl rfl 6 (Nat.le_of_ble_eq_true rfl) (hts _ kX5_setGuarantor_3) (fun _ h9 => h9) rfl dX5_setGuarantor_35 ?_
    refine lv_iload_n hx hb dX5_setGuarantor_38 rfl (lv_at hl 1 rfl) ?_
    obtain ⟨h4, hf⟩ := gi_some hf
    refine g_iald hx hb hK hP 1 2 0 rfl rfl rfl h4 dX5_setGuarantor_39 ?_
    obtain ⟨x5, ex5, hf⟩ := lt_some hf
    refine lv_nmi ex5 ?_
    refine lv_istore_n (lv' := [(3, .int x5), (0, .ref (a0 0)), (1, .int i1), (2, .int i2)]) hx hb dX5_setGuarantor_40 rfl hl (by decide) rfl (fun ls hl => ?_)
    refine lv_aload_n hx hb dX5_setGuarantor_41 rfl (lv_at hl 1 rfl) ?_
    refine g_get (C := RX5) (T := TX5) (N := 8) hx hb hts iwX5_setGuarantor_X5 hown hK hP 0 0 rfl rfl rfl 0 (Nat.le_of_ble_eq_true rfl) (hts _ kX5_setGuarantor_2) (fun _ h9 => h9) rfl dX5_setGuarantor_42 ?_
    refine g_get (C := RX3) (T := TX3) (N := 17) hx hb hts iwX5_setGuarantor_X3 hown hK hP 1 0 rfl rfl rfl 6 (Nat.le_of_ble_eq_true rfl) (hts _ kX5_setGuarantor_3) (fun _ h9 => h9) rfl dX5_setGuarantor_45 ?_
    refine lv_iload_n hx hb dX5_setGuarantor_48 rfl (lv_at hl 2 rfl) ?_
    refine lv_iload_n hx hb dX5_setGuarantor_49 rfl (lv_at hl 3 rfl) ?_
    obtain ⟨h6, hf⟩ := gi_some hf
    obtain ⟨u7, eu7, hf⟩ := lt_some hf
    refine g_iast (gs' := [maW a0 (a1 0) (a2 0) (a3 0) (a4 0) (a7 0 0) (a8 0) (a9 0) (a9 1), stW G a1 u7, paW G a7 q3.2]) hx hb hK hP hD hS 1 2 0 rfl rfl rfl h6 dX5_setGuarantor_50 (by rw [eu7]; rfl) (fun H locs hP hD hS => ?_)
    refine lv_iload_n hx hb dX5_setGuarantor_51 rfl (lv_at hl 0 rfl) ?_
    cases hf
    exact g_iret hx hb hr hlocks hP hS dX5_setGuarantor_52
  · rw [if_pos c1] at hf
    refine lv_aload_n hx hb dX5_setGuarantor_6 rfl (lv_at hl 0 rfl) ?_
    refine lv_iload_n hx hb dX5_setGuarantor_7 rfl (lv_at hl 1 rfl) ?_
    obtain ⟨q8, hq8, hf⟩ := bd_some hf
    refine g_callVv S (As := [.int i1]) (gs' := [maW a0 (a1 0) (a2 0) (a3 0) (a4 0) (a7 0 0) (a8 0) (a9 0) (a9 1), stW G a1 v1, paW G a7 v7]) (c_X5_requireMember l G a0 a1 a2 a3 a4 a5 a6 a7 a8 a9 a10 a11 v1 i1 hq8) (cwV 1 hts gX5_setGuarantor_X5_requireMember rfl rfl rfl hd_X5_requireMember ⟨Nat.le_of_ble_eq_true rfl, Nat.le_of_ble_eq_true rfl⟩) hK hP hD hS hA (is := [0, 1]) rfl rfl 0 rfl rfl rfl rfl hl.1 rfl (Nat.le_of_ble_eq_true rfl) dX5_setGuarantor_8 ⟨Nat.le_of_ble_eq_true rfl, Nat.le_of_ble_eq_true rfl⟩ rfl (fun H locs hP hD hS => ?_)
    refine lv_goto (tgt := 20) hx hb dX5_setGuarantor_11 (by decide) ?_
    refine lv_aload_n hx hb dX5_setGuarantor_20 rfl (lv_at hl 0 rfl) ?_
    refine g_get (C := RX5) (T := TX5) (N := 8) hx hb hts iwX5_setGuarantor_X5 hown hK hP 0 0 rfl rfl rfl 4 (Nat.le_of_ble_eq_true rfl) (hts _ kX5_setGuarantor_1) (fun _ h9 => h9) rfl dX5_setGuarantor_21 ?_
    refine lv_aload_n hx hb dX5_setGuarantor_24 rfl (lv_at hl 0 rfl) ?_
    refine g_get (C := RX5) (T := TX5) (N := 8) hx hb hts iwX5_setGuarantor_X5 hown hK hP 0 0 rfl rfl rfl 0 (Nat.le_of_ble_eq_true rfl) (hts _ kX5_setGuarantor_2) (fun _ h9 => h9) rfl dX5_setGuarantor_25 ?_
    obtain ⟨q9, hq9, hf⟩ := bd_some hf
    refine g_callVv S (As := [.ref (a1 0)]) (gs' := [maW a0 (a1 0) (a2 0) (a3 0) (a4 0) (a7 0 0) (a8 0) (a9 0) (a9 1), stW G a1 v1, paW G a7 q9.2]) (c_X0_remember l G a7 a1 v7 v1 hq9) (cwV 1 hts gX5_setGuarantor_X0_remember rfl rfl rfl hd_X0_remember ⟨Nat.le_of_ble_eq_true rfl, Nat.le_of_ble_eq_true rfl⟩) hK hP hD hS hA (is := [2, 1]) rfl rfl 2 rfl rfl rfl rfl hl.1 rfl (Nat.le_of_ble_eq_true rfl) dX5_setGuarantor_28 ⟨Nat.le_of_ble_eq_true rfl, Nat.le_of_ble_eq_true rfl⟩ rfl (fun H locs hP hD hS => ?_)
    refine lv_aload_n hx hb dX5_setGuarantor_31 rfl (lv_at hl 0 rfl) ?_
    refine g_get (C := RX5) (T := TX5) (N := 8) hx hb hts iwX5_setGuarantor_X5 hown hK hP 0 0 rfl rfl rfl 0 (Nat.le_of_ble_eq_true rfl) (hts _ kX5_setGuarantor_2) (fun _ h9 => h9) rfl dX5_setGuarantor_32 ?_
    refine g_get (C := RX3) (T := TX3) (N := 17) hx hb hts iwX5_setGuarantor_X3 hown hK hP 1 0 rfl rfl rfl 6 (Nat.le_of_ble_eq_true rfl) (hts _ kX5_setGuarantor_3) (fun _ h9 => h9) rfl dX5_setGuarantor_35 ?_
    refine lv_iload_n hx hb dX5_setGuarantor_38 rfl (lv_at hl 1 rfl) ?_
    obtain ⟨h10, hf⟩ := gi_some hf
    refine g_iald hx hb hK hP 1 2 0 rfl rfl rfl h10 dX5_setGuarantor_39 ?_
    obtain ⟨x11, ex11, hf⟩ := lt_some hf
    refine lv_nmi ex11 ?_
    refine lv_istore_n (lv' := [(3, .int x11), (0, .ref (a0 0)), (1, .int i1), (2, .int i2)]) hx hb dX5_setGuarantor_40 rfl hl (by decide) rfl (fun ls hl => ?_)
    refine lv_aload_n hx hb dX5_setGuarantor_41 rfl (lv_at hl 1 rfl) ?_
    refine g_get (C := RX5) (T := TX5) (N := 8) hx hb hts iwX5_setGuarantor_X5 hown hK hP 0 0 rfl rfl rfl 0 (Nat.le_of_ble_eq_true rfl) (hts _ kX5_setGuarantor_2) (fun _ h9 => h9) rfl dX5_setGuarantor_42 ?_
    refine g_get (C := RX3) (T := TX3) (N := 17) hx hb hts iwX5_setGuarantor_X3 hown hK hP 1 0 rfl rfl rfl 6 (Nat.le_of_ble_eq_true rfl) (hts _ kX5_setGuarantor_3) (fun _ h9 => h9) rfl dX5_setGuarantor_45 ?_
    refine lv_iload_n hx hb dX5_setGuarantor_48 rfl (lv_at hl 2 rfl) ?_
    refine lv_iload_n hx hb dX5_setGuarantor_49 rfl (lv_at hl 3 rfl) ?_
    obtain ⟨h12, hf⟩ := gi_some hf
    obtain ⟨u13, eu13, hf⟩ := lt_some hf
    refine g_iast (gs' := [maW a0 (a1 0) (a2 0) (a3 0) (a4 0) (a7 0 0) (a8 0) (a9 0) (a9 1), stW G a1 u13, paW G a7 q9.2]) hx hb hK hP hD hS 1 2 0 rfl rfl rfl h12 dX5_setGuarantor_50 (by rw [eu13]; rfl) (fun H locs hP hD hS => ?_)
    refine lv_iload_n hx hb dX5_setGuarantor_51 rfl (lv_at hl 0 rfl) ?_
    cases hf
    exact g_iret hx hb hr hlocks hP hS dX5_setGuarantor_52
theorem kX5_bid_0 : Cond.fieldLink RX5 10 "SavingsCircle" "now" "LSavingsCircle$State;" ∈ wsX5_bid := (List.mem_cons_of_mem _ (List.mem_append_left _ (List.mem_append_left _ (List.mem_append_left _ (List.mem_append_left _ (List.mem_append_left _ (List.mem_append_left _ (List.mem_append_left _ (List.mem_of_getElem? (i := 2) rfl)))))))))
theorem kX5_bid_1 : Cond.fieldLink RX5 36 "SavingsCircle" "past" "LSavingsCircle$Past;" ∈ wsX5_bid := (List.mem_cons_of_mem _ (List.mem_append_left _ (List.mem_append_left _ (List.mem_append_left _ (List.mem_append_left _ (List.mem_append_left _ (List.mem_append_left _ (List.mem_append_left _ (List.mem_of_getElem? (i := 3) rfl)))))))))
theorem kX5_bid_2 : Cond.fieldLink RX5 132 "SavingsCircle$State" "bid" "[I" ∈ wsX5_bid := (List.mem_cons_of_mem _ (List.mem_append_left _ (List.mem_append_left _ (List.mem_append_left _ (List.mem_append_left _ (List.mem_append_left _ (List.mem_append_left _ (List.mem_append_left _ (List.mem_of_getElem? (i := 4) rfl)))))))))
theorem iwX5_bid_X5 : ∀ w ∈ wsX50, w ∈ wsX5_bid := fun w h => (List.mem_cons_of_mem _ (List.mem_append_left _ (List.mem_append_left _ (List.mem_append_left _ (List.mem_append_left _ (List.mem_append_left _ (List.mem_append_right _ h)))))))
theorem iwX5_bid_X3 : ∀ w ∈ wsX30, w ∈ wsX5_bid := fun w h => (List.mem_cons_of_mem _ (List.mem_append_left _ (List.mem_append_left _ (List.mem_append_left _ (List.mem_append_left _ (List.mem_append_right _ h))))))
set_option maxHeartbeats 4000000 in
set_option maxRecDepth 100000 in
theorem c_X5_bid (l : Launch) (G : uG) (a0 : Nat → Nat) (a1 : Nat → Nat) (a2 : Nat → Nat) (a3 : Nat → Nat) (a4 : Nat → Nat) (a5 : Nat → Nat) (a6 : Nat → Nat) (a7 : Nat → Nat → Nat) (a8 : Nat → Nat) (a9 : Nat → Nat) (a10 : Nat → Nat) (a11 : Nat → Nat) (v1 : StV) (v7 : PaV) (i1 : Int32) (i2 : Int32) {q : Int32 × (StV × PaV)} (hf : f_X5_bid v1 v7 i1 i2 = some q) : mQ l yX5_bid wsX5_bid ({ frames := 2, cells := 0, slots := 0, locals := 43 } : Room) G [.ref (a0 0), .int i1, .int i2] [maW a0 (a1 0) (a2 0) (a3 0) (a4 0) (a7 0 0) (a8 0) (a9 0) (a9 1), stW G a1 v1, paW G a7 v7] [maW a0 (a1 0) (a2 0) (a3 0) (a4 0) (a7 0 0) (a8 0) (a9 0) (a9 1), stW G a1 q.2.1, paW G a7 q.2.2] (qI G [maW a0 (a1 0) (a2 0) (a3 0) (a4 0) (a7 0 0) (a8 0) (a9 0) (a9 1), stW G a1 q.2.1, paW G a7 q.2.2] q.1) := by
  unfold f_X5_bid at hf
  refine m_of (cc := cX5_bid) (maxL := 4) (ret := (some .int)) (by decide) rfl rfl (Nat.le_of_ble_eq_true rfl) ?_
  intro p e s m args below meth c A ls S hK hA hP hD hS hl
  obtain ⟨hx, hb, hml, hown, hts, hr, hlocks⟩ := id S
  have hl : lv_has ls 4 [(0, .ref (a0 0)), (1, .int i1), (2, .int i2)] := hl
  refine lv_aload_n hx hb dX5_bid_0 rfl (lv_at hl 0 rfl) ?_
  refine lv_iload_n hx hb dX5_bid_1 rfl (lv_at hl 1 rfl) ?_
  obtain ⟨q1, hq1, hf⟩ := bd_some hf
  refine g_callVv S (As := [.int i1]) (gs' := [maW a0 (a1 0) (a2 0) (a3 0) (a4 0) (a7 0 0) (a8 0) (a9 0) (a9 1), stW G a1 v1, paW G a7 v7]) (c_X5_requireMember l G a0 a1 a2 a3 a4 a5 a6 a7 a8 a9 a10 a11 v1 i1 hq1) (cwV 1 hts gX5_bid_X5_requireMember rfl rfl rfl hd_X5_requireMember ⟨Nat.le_of_ble_eq_true rfl, Nat.le_of_ble_eq_true rfl⟩) hK hP hD hS hA (is := [0, 1]) rfl rfl 0 rfl rfl rfl rfl hl.1 rfl (Nat.le_of_ble_eq_true rfl) dX5_bid_2 ⟨Nat.le_of_ble_eq_true rfl, Nat.le_of_ble_eq_true rfl⟩ rfl (fun H locs hP hD hS => ?_)
  refine lv_iload_n hx hb dX5_bid_5 rfl (lv_at hl 2 rfl) ?_
  refine lv_iconst (v := (0:Int32)) hx hb dX5_bid_6 (by decide) ?_
  refine lv_sipush (v := (999:Int32)) hx hb dX5_bid_7 (by decide) ?_
  obtain ⟨q2, hq2, hf⟩ := bd_some hf
  refine g_callSv S (As := [.int i2, .int (0:Int32), .int (999:Int32)]) (gs' := [maW a0 (a1 0) (a2 0) (a3 0) (a4 0) (a7 0 0) (a8 0) (a9 0) (a9 1), stW G a1 v1, paW G a7 v7]) (c_X5_requireRange l G i2 (0:Int32) (999:Int32) hq2) (va_cwS 3 hts gX5_bid_X5_requireRange rfl rfl rfl hd_X5_requireRange.2 ⟨Nat.le_of_ble_eq_true rfl, Nat.le_of_ble_eq_true rfl⟩) hK hP hD hS hA (is := []) rfl rfl rfl hl.1 rfl (Nat.le_of_ble_eq_true rfl) dX5_bid_10 ⟨Nat.le_of_ble_eq_true rfl, Nat.le_of_ble_eq_true rfl⟩ rfl (fun H locs hP hD hS => ?_)
  refine lv_aload_n hx hb dX5_bid_13 rfl (lv_at hl 0 rfl) ?_
  refine g_get (C := RX5) (T := TX5) (N := 8) hx hb hts iwX5_bid_X5 hown hK hP 0 0 rfl rfl rfl 0 (Nat.le_of_ble_eq_true rfl) (hts _ kX5_bid_0) (fun _ h9 => h9) rfl dX5_bid_14 ?_
  refine lv_iload_n hx hb dX5_bid_17 rfl (lv_at hl 1 rfl) ?_
  obtain ⟨q3, hq3, hf⟩ := bd_some hf
  refine g_callVi S (As := [.int i1]) (gs' := [maW a0 (a1 0) (a2 0) (a3 0) (a4 0) (a7 0 0) (a8 0) (a9 0) (a9 1), stW G a1 v1, paW G a7 v7]) (c_X3_mayBid l G a1 v1 i1 hq3) (cwV 1 hts gX5_bid_X3_mayBid rfl rfl rfl hd_X3_mayBid ⟨Nat.le_of_ble_eq_true rfl, Nat.le_of_ble_eq_true rfl⟩) hK hP hD hS hA (is := [1]) rfl rfl 1 rfl rfl rfl rfl hl.1 rfl (Nat.le_of_ble_eq_true rfl) dX5_bid_18 ⟨Nat.le_of_ble_eq_true rfl, Nat.le_of_ble_eq_true rfl⟩ rfl (fun H locs hP hD hS => ?_)
  refine lv_if_ne (tgt := 34) hx hb dX5_bid_21 (by decide) (fun c4 => ?_) (fun c4 => ?_)
  · rw [if_neg c4] at hf
    refine lv_aload_n hx hb dX5_bid_34 rfl (lv_at hl 0 rfl) ?_
    refine g_get (C := RX5) (T := TX5) (N := 8) hx hb hts iwX5_bid_X5 hown hK hP 0 0 rfl rfl rfl 4 (Nat.le_of_ble_eq_true rfl) (hts _ kX5_bid_1) (fun _ h9 => h9) rfl dX5_bid_35 ?_
    refine lv_aload_n hx hb dX5_bid_38 rfl (lv_at hl 0 rfl) ?_
    refine g_get (C := RX5) (T := TX5) (N := 8) hx hb hts iwX5_bid_X5 hown hK hP 0 0 rfl rfl rfl 0 (Nat.le_of_ble_eq_true rfl) (hts _ kX5_bid_0) (fun _ h9 => h9) rfl dX5_bid_39 ?_
    obtain ⟨q5, hq5, hf⟩ := bd_some hf
    refine g_callVv S (As := [.ref (a1 0)]) (gs' := [maW a0 (a1 0) (a2 0) (a3 0) (a4 0) (a7 0 0) (a8 0) (a9 0) (a9 1), stW G a1 v1, paW G a7 q5.2]) (c_X0_remember l G a7 a1 v7 v1 hq5) (cwV 1 hts gX5_bid_X0_remember rfl rfl rfl hd_X0_remember ⟨Nat.le_of_ble_eq_true rfl, Nat.le_of_ble_eq_true rfl⟩) hK hP hD hS hA (is := [2, 1]) rfl rfl 2 rfl rfl rfl rfl hl.1 rfl (Nat.le_of_ble_eq_true rfl) dX5_bid_42 ⟨Nat.le_of_ble_eq_true rfl, Nat.le_of_ble_eq_true rfl⟩ rfl (fun H locs hP hD hS => ?_)
    refine lv_aload_n hx hb dX5_bid_45 rfl (lv_at hl 0 rfl) ?_
    refine g_get (C := RX5) (T := TX5) (N := 8) hx hb hts iwX5_bid_X5 hown hK hP 0 0 rfl rfl rfl 0 (Nat.le_of_ble_eq_true rfl) (hts _ kX5_bid_0) (fun _ h9 => h9) rfl dX5_bid_46 ?_
    refine g_get (C := RX3) (T := TX3) (N := 17) hx hb hts iwX5_bid_X3 hown hK hP 1 0 rfl rfl rfl 7 (Nat.le_of_ble_eq_true rfl) (hts _ kX5_bid_2) (fun _ h9 => h9) rfl dX5_bid_49 ?_
    refine lv_iload_n hx hb dX5_bid_52 rfl (lv_at hl 1 rfl) ?_
    obtain ⟨h6, hf⟩ := gi_some hf
    refine g_iald hx hb hK hP 1 3 0 rfl rfl rfl h6 dX5_bid_53 ?_
    obtain ⟨x7, ex7, hf⟩ := lt_some hf
    refine lv_nmi ex7 ?_
    refine lv_istore_n (lv' := [(3, .int x7), (0, .ref (a0 0)), (1, .int i1), (2, .int i2)]) hx hb dX5_bid_54 rfl hl (by decide) rfl (fun ls hl => ?_)
    refine lv_aload_n hx hb dX5_bid_55 rfl (lv_at hl 1 rfl) ?_
    refine g_get (C := RX5) (T := TX5) (N := 8) hx hb hts iwX5_bid_X5 hown hK hP 0 0 rfl rfl rfl 0 (Nat.le_of_ble_eq_true rfl) (hts _ kX5_bid_0) (fun _ h9 => h9) rfl dX5_bid_56 ?_
    refine g_get (C := RX3) (T := TX3) (N := 17) hx hb hts iwX5_bid_X3 hown hK hP 1 0 rfl rfl rfl 7 (Nat.le_of_ble_eq_true rfl) (hts _ kX5_bid_2) (fun _ h9 => h9) rfl dX5_bid_59 ?_
    refine lv_iload_n hx hb dX5_bid_62 rfl (lv_at hl 2 rfl) ?_
    refine lv_iload_n hx hb dX5_bid_63 rfl (lv_at hl 3 rfl) ?_
    obtain ⟨h8, hf⟩ := gi_some hf
    obtain ⟨u9, eu9, hf⟩ := lt_some hf
    refine g_iast (gs' := [maW a0 (a1 0) (a2 0) (a3 0) (a4 0) (a7 0 0) (a8 0) (a9 0) (a9 1), stW G a1 u9, paW G a7 q5.2]) hx hb hK hP hD hS 1 3 0 rfl rfl rfl h8 dX5_bid_64 (by rw [eu9]; rfl) (fun H locs hP hD hS => ?_)
    refine lv_iload_n hx hb dX5_bid_65 rfl (lv_at hl 0 rfl) ?_
    cases hf
    exact g_iret hx hb hr hlocks hP hS dX5_bid_66
  · rw [if_pos c4] at hf
    cases hf
theorem kX5_stayAway_0 : Cond.fieldLink RX5 36 "SavingsCircle" "past" "LSavingsCircle$Past;" ∈ wsX5_stayAway := (List.mem_cons_of_mem _ (List.mem_append_left _ (List.mem_append_left _ (List.mem_append_left _ (List.mem_append_left _ (List.mem_append_left _ (List.mem_of_getElem? (i := 0) rfl)))))))
theorem kX5_stayAway_1 : Cond.fieldLink RX5 10 "SavingsCircle" "now" "LSavingsCircle$State;" ∈ wsX5_stayAway := (List.mem_cons_of_mem _ (List.mem_append_left _ (List.mem_append_left _ (List.mem_append_left _ (List.mem_append_left _ (List.mem_append_left _ (List.mem_of_getElem? (i := 1) rfl)))))))
theorem kX5_stayAway_2 : Cond.fieldLink RX5 135 "SavingsCircle$State" "away" "[Z" ∈ wsX5_stayAway := (List.mem_cons_of_mem _ (List.mem_append_left _ (List.mem_append_left _ (List.mem_append_left _ (List.mem_append_left _ (List.mem_append_left _ (List.mem_of_getElem? (i := 2) rfl)))))))
theorem iwX5_stayAway_X5 : ∀ w ∈ wsX50, w ∈ wsX5_stayAway := fun w h => (List.mem_cons_of_mem _ (List.mem_append_left _ (List.mem_append_left _ (List.mem_append_left _ (List.mem_append_right _ h)))))
theorem iwX5_stayAway_X3 : ∀ w ∈ wsX30, w ∈ wsX5_stayAway := fun w h => (List.mem_cons_of_mem _ (List.mem_append_left _ (List.mem_append_left _ (List.mem_append_right _ h))))
set_option maxHeartbeats 4000000 in
set_option maxRecDepth 100000 in
theorem c_X5_stayAway (l : Launch) (G : uG) (a0 : Nat → Nat) (a1 : Nat → Nat) (a2 : Nat → Nat) (a3 : Nat → Nat) (a4 : Nat → Nat) (a5 : Nat → Nat) (a6 : Nat → Nat) (a7 : Nat → Nat → Nat) (a8 : Nat → Nat) (a9 : Nat → Nat) (a10 : Nat → Nat) (a11 : Nat → Nat) (v1 : StV) (v7 : PaV) (i1 : Int32) (i2 : Int32) {q : Int32 × (StV × PaV)} (hf : f_X5_stayAway v1 v7 i1 i2 = some q) : mQ l yX5_stayAway wsX5_stayAway ({ frames := 2, cells := 0, slots := 0, locals := 43 } : Room) G [.ref (a0 0), .int i1, .int i2] [maW a0 (a1 0) (a2 0) (a3 0) (a4 0) (a7 0 0) (a8 0) (a9 0) (a9 1), stW G a1 v1, paW G a7 v7] [maW a0 (a1 0) (a2 0) (a3 0) (a4 0) (a7 0 0) (a8 0) (a9 0) (a9 1), stW G a1 q.2.1, paW G a7 q.2.2] (qI G [maW a0 (a1 0) (a2 0) (a3 0) (a4 0) (a7 0 0) (a8 0) (a9 0) (a9 1), stW G a1 q.2.1, paW G a7 q.2.2] q.1) := by
  unfold f_X5_stayAway at hf
  refine m_of (cc := cX5_stayAway) (maxL := 4) (ret := (some .boolean)) (by decide) rfl rfl (Nat.le_of_ble_eq_true rfl) ?_
  intro p e s m args below meth c A ls S hK hA hP hD hS hl
  obtain ⟨hx, hb, hml, hown, hts, hr, hlocks⟩ := id S
  have hl : lv_has ls 4 [(0, .ref (a0 0)), (1, .int i1), (2, .int i2)] := hl
  refine lv_aload_n hx hb dX5_stayAway_0 rfl (lv_at hl 0 rfl) ?_
  refine lv_iload_n hx hb dX5_stayAway_1 rfl (lv_at hl 1 rfl) ?_
  obtain ⟨q1, hq1, hf⟩ := bd_some hf
  refine g_callVv S (As := [.int i1]) (gs' := [maW a0 (a1 0) (a2 0) (a3 0) (a4 0) (a7 0 0) (a8 0) (a9 0) (a9 1), stW G a1 v1, paW G a7 v7]) (c_X5_requireMember l G a0 a1 a2 a3 a4 a5 a6 a7 a8 a9 a10 a11 v1 i1 hq1) (cwV 1 hts gX5_stayAway_X5_requireMember rfl rfl rfl hd_X5_requireMember ⟨Nat.le_of_ble_eq_true rfl, Nat.le_of_ble_eq_true rfl⟩) hK hP hD hS hA (is := [0, 1]) rfl rfl 0 rfl rfl rfl rfl hl.1 rfl (Nat.le_of_ble_eq_true rfl) dX5_stayAway_2 ⟨Nat.le_of_ble_eq_true rfl, Nat.le_of_ble_eq_true rfl⟩ rfl (fun H locs hP hD hS => ?_)
  refine lv_aload_n hx hb dX5_stayAway_5 rfl (lv_at hl 0 rfl) ?_
  refine g_get (C := RX5) (T := TX5) (N := 8) hx hb hts iwX5_stayAway_X5 hown hK hP 0 0 rfl rfl rfl 4 (Nat.le_of_ble_eq_true rfl) (hts _ kX5_stayAway_0) (fun _ h9 => h9) rfl dX5_stayAway_6 ?_
  refine lv_aload_n hx hb dX5_stayAway_9 rfl (lv_at hl 0 rfl) ?_
  refine g_get (C := RX5) (T := TX5) (N := 8) hx hb hts iwX5_stayAway_X5 hown hK hP 0 0 rfl rfl rfl 0 (Nat.le_of_ble_eq_true rfl) (hts _ kX5_stayAway_1) (fun _ h9 => h9) rfl dX5_stayAway_10 ?_
  obtain ⟨q2, hq2, hf⟩ := bd_some hf
  refine g_callVv S (As := [.ref (a1 0)]) (gs' := [maW a0 (a1 0) (a2 0) (a3 0) (a4 0) (a7 0 0) (a8 0) (a9 0) (a9 1), stW G a1 v1, paW G a7 q2.2]) (c_X0_remember l G a7 a1 v7 v1 hq2) (cwV 1 hts gX5_stayAway_X0_remember rfl rfl rfl hd_X0_remember ⟨Nat.le_of_ble_eq_true rfl, Nat.le_of_ble_eq_true rfl⟩) hK hP hD hS hA (is := [2, 1]) rfl rfl 2 rfl rfl rfl rfl hl.1 rfl (Nat.le_of_ble_eq_true rfl) dX5_stayAway_13 ⟨Nat.le_of_ble_eq_true rfl, Nat.le_of_ble_eq_true rfl⟩ rfl (fun H locs hP hD hS => ?_)
  refine lv_aload_n hx hb dX5_stayAway_16 rfl (lv_at hl 0 rfl) ?_
  refine g_get (C := RX5) (T := TX5) (N := 8) hx hb hts iwX5_stayAway_X5 hown hK hP 0 0 rfl rfl rfl 0 (Nat.le_of_ble_eq_true rfl) (hts _ kX5_stayAway_1) (fun _ h9 => h9) rfl dX5_stayAway_17 ?_
  refine g_get (C := RX3) (T := TX3) (N := 17) hx hb hts iwX5_stayAway_X3 hown hK hP 1 0 rfl rfl rfl 8 (Nat.le_of_ble_eq_true rfl) (hts _ kX5_stayAway_2) (fun _ h9 => h9) rfl dX5_stayAway_20 ?_
  refine lv_iload_n hx hb dX5_stayAway_23 rfl (lv_at hl 1 rfl) ?_
  obtain ⟨h3, hf⟩ := gi_some hf
  refine g_zald hx hb hK hP 1 4 1 rfl rfl rfl h3 dX5_stayAway_24 ?_
  obtain ⟨x4, ex4, hf⟩ := lt_some hf
  refine lv_nmi ex4 ?_
  refine lv_istore_n (lv' := [(3, .int x4), (0, .ref (a0 0)), (1, .int i1), (2, .int i2)]) hx hb dX5_stayAway_25 rfl hl (by decide) rfl (fun ls hl => ?_)
  refine lv_aload_n hx hb dX5_stayAway_26 rfl (lv_at hl 1 rfl) ?_
  refine g_get (C := RX5) (T := TX5) (N := 8) hx hb hts iwX5_stayAway_X5 hown hK hP 0 0 rfl rfl rfl 0 (Nat.le_of_ble_eq_true rfl) (hts _ kX5_stayAway_1) (fun _ h9 => h9) rfl dX5_stayAway_27 ?_
  refine g_get (C := RX3) (T := TX3) (N := 17) hx hb hts iwX5_stayAway_X3 hown hK hP 1 0 rfl rfl rfl 8 (Nat.le_of_ble_eq_true rfl) (hts _ kX5_stayAway_2) (fun _ h9 => h9) rfl dX5_stayAway_30 ?_
  refine lv_iload_n hx hb dX5_stayAway_33 rfl (lv_at hl 2 rfl) ?_
  refine lv_iload_n hx hb dX5_stayAway_34 rfl (lv_at hl 3 rfl) ?_
  obtain ⟨h5, hf⟩ := gi_some hf
  obtain ⟨u6, eu6, hf⟩ := lt_some hf
  refine g_zast (gs' := [maW a0 (a1 0) (a2 0) (a3 0) (a4 0) (a7 0 0) (a8 0) (a9 0) (a9 1), stW G a1 u6, paW G a7 q2.2]) hx hb hK hP hD hS 1 4 1 rfl rfl rfl h5 dX5_stayAway_35 (by rw [eu6]; rfl) (fun H locs hP hD hS => ?_)
  refine lv_iload_n hx hb dX5_stayAway_36 rfl (lv_at hl 0 rfl) ?_
  obtain ⟨h7, hf⟩ := gb_some hf
  cases hf
  exact g_zret hx hb hr h7 hlocks hP hS dX5_stayAway_37
theorem kX5_give_0 : Cond.fieldLink RX5 10 "SavingsCircle" "now" "LSavingsCircle$State;" ∈ wsX5_give := (List.mem_cons_of_mem _ (List.mem_append_left _ (List.mem_append_left _ (List.mem_append_left _ (List.mem_append_left _ (List.mem_append_left _ (List.mem_append_left _ (List.mem_append_left _ (List.mem_of_getElem? (i := 2) rfl)))))))))
theorem kX5_give_1 : Cond.fieldLink RX5 36 "SavingsCircle" "past" "LSavingsCircle$Past;" ∈ wsX5_give := (List.mem_cons_of_mem _ (List.mem_append_left _ (List.mem_append_left _ (List.mem_append_left _ (List.mem_append_left _ (List.mem_append_left _ (List.mem_append_left _ (List.mem_append_left _ (List.mem_of_getElem? (i := 3) rfl)))))))))
theorem kX5_give_2 : Cond.fieldLink RX5 125 "SavingsCircle$State" "purse" "[I" ∈ wsX5_give := (List.mem_cons_of_mem _ (List.mem_append_left _ (List.mem_append_left _ (List.mem_append_left _ (List.mem_append_left _ (List.mem_append_left _ (List.mem_append_left _ (List.mem_append_left _ (List.mem_of_getElem? (i := 4) rfl)))))))))
theorem iwX5_give_X5 : ∀ w ∈ wsX50, w ∈ wsX5_give := fun w h => (List.mem_cons_of_mem _ (List.mem_append_left _ (List.mem_append_left _ (List.mem_append_left _ (List.mem_append_left _ (List.mem_append_left _ (List.mem_append_right _ h)))))))
theorem iwX5_give_X3 : ∀ w ∈ wsX30, w ∈ wsX5_give := fun w h => (List.mem_cons_of_mem _ (List.mem_append_left _ (List.mem_append_left _ (List.mem_append_left _ (List.mem_append_left _ (List.mem_append_right _ h))))))
set_option maxHeartbeats 4000000 in
set_option maxRecDepth 100000 in
theorem c_X5_give (l : Launch) (G : uG) (a0 : Nat → Nat) (a1 : Nat → Nat) (a2 : Nat → Nat) (a3 : Nat → Nat) (a4 : Nat → Nat) (a5 : Nat → Nat) (a6 : Nat → Nat) (a7 : Nat → Nat → Nat) (a8 : Nat → Nat) (a9 : Nat → Nat) (a10 : Nat → Nat) (a11 : Nat → Nat) (v1 : StV) (v7 : PaV) (i1 : Int32) (i2 : Int32) {q : Int32 × (StV × PaV)} (hf : f_X5_give v1 v7 i1 i2 = some q) : mQ l yX5_give wsX5_give ({ frames := 2, cells := 0, slots := 0, locals := 43 } : Room) G [.ref (a0 0), .int i1, .int i2] [maW a0 (a1 0) (a2 0) (a3 0) (a4 0) (a7 0 0) (a8 0) (a9 0) (a9 1), stW G a1 v1, paW G a7 v7] [maW a0 (a1 0) (a2 0) (a3 0) (a4 0) (a7 0 0) (a8 0) (a9 0) (a9 1), stW G a1 q.2.1, paW G a7 q.2.2] (qI G [maW a0 (a1 0) (a2 0) (a3 0) (a4 0) (a7 0 0) (a8 0) (a9 0) (a9 1), stW G a1 q.2.1, paW G a7 q.2.2] q.1) := by
  unfold f_X5_give at hf
  refine m_of (cc := cX5_give) (maxL := 3) (ret := (some .int)) (by decide) rfl rfl (Nat.le_of_ble_eq_true rfl) ?_
  intro p e s m args below meth c A ls S hK hA hP hD hS hl
  obtain ⟨hx, hb, hml, hown, hts, hr, hlocks⟩ := id S
  have hl : lv_has ls 3 [(0, .ref (a0 0)), (1, .int i1), (2, .int i2)] := hl
  refine lv_aload_n hx hb dX5_give_0 rfl (lv_at hl 0 rfl) ?_
  refine lv_iload_n hx hb dX5_give_1 rfl (lv_at hl 1 rfl) ?_
  obtain ⟨q1, hq1, hf⟩ := bd_some hf
  refine g_callVv S (As := [.int i1]) (gs' := [maW a0 (a1 0) (a2 0) (a3 0) (a4 0) (a7 0 0) (a8 0) (a9 0) (a9 1), stW G a1 v1, paW G a7 v7]) (c_X5_requireMember l G a0 a1 a2 a3 a4 a5 a6 a7 a8 a9 a10 a11 v1 i1 hq1) (cwV 1 hts gX5_give_X5_requireMember rfl rfl rfl hd_X5_requireMember ⟨Nat.le_of_ble_eq_true rfl, Nat.le_of_ble_eq_true rfl⟩) hK hP hD hS hA (is := [0, 1]) rfl rfl 0 rfl rfl rfl rfl hl.1 rfl (Nat.le_of_ble_eq_true rfl) dX5_give_2 ⟨Nat.le_of_ble_eq_true rfl, Nat.le_of_ble_eq_true rfl⟩ rfl (fun H locs hP hD hS => ?_)
  refine lv_iload_n hx hb dX5_give_5 rfl (lv_at hl 2 rfl) ?_
  refine lv_iconst (v := (1:Int32)) hx hb dX5_give_6 (by decide) ?_
  refine lv_sipush (v := (999:Int32)) hx hb dX5_give_7 (by decide) ?_
  obtain ⟨q2, hq2, hf⟩ := bd_some hf
  refine g_callSv S (As := [.int i2, .int (1:Int32), .int (999:Int32)]) (gs' := [maW a0 (a1 0) (a2 0) (a3 0) (a4 0) (a7 0 0) (a8 0) (a9 0) (a9 1), stW G a1 v1, paW G a7 v7]) (c_X5_requireRange l G i2 (1:Int32) (999:Int32) hq2) (va_cwS 3 hts gX5_give_X5_requireRange rfl rfl rfl hd_X5_requireRange.2 ⟨Nat.le_of_ble_eq_true rfl, Nat.le_of_ble_eq_true rfl⟩) hK hP hD hS hA (is := []) rfl rfl rfl hl.1 rfl (Nat.le_of_ble_eq_true rfl) dX5_give_10 ⟨Nat.le_of_ble_eq_true rfl, Nat.le_of_ble_eq_true rfl⟩ rfl (fun H locs hP hD hS => ?_)
  refine lv_aload_n hx hb dX5_give_13 rfl (lv_at hl 0 rfl) ?_
  refine g_get (C := RX5) (T := TX5) (N := 8) hx hb hts iwX5_give_X5 hown hK hP 0 0 rfl rfl rfl 0 (Nat.le_of_ble_eq_true rfl) (hts _ kX5_give_0) (fun _ h9 => h9) rfl dX5_give_14 ?_
  refine lv_iload_n hx hb dX5_give_17 rfl (lv_at hl 2 rfl) ?_
  obtain ⟨q3, hq3, hf⟩ := bd_some hf
  refine g_callVi S (As := [.int i2]) (gs' := [maW a0 (a1 0) (a2 0) (a3 0) (a4 0) (a7 0 0) (a8 0) (a9 0) (a9 1), stW G a1 v1, paW G a7 v7]) (c_X3_mayReceive l G a1 v1 i2 hq3) (cwV 1 hts gX5_give_X3_mayReceive rfl rfl rfl hd_X3_mayReceive ⟨Nat.le_of_ble_eq_true rfl, Nat.le_of_ble_eq_true rfl⟩) hK hP hD hS hA (is := [1]) rfl rfl 1 rfl rfl rfl rfl hl.1 rfl (Nat.le_of_ble_eq_true rfl) dX5_give_18 ⟨Nat.le_of_ble_eq_true rfl, Nat.le_of_ble_eq_true rfl⟩ rfl (fun H locs hP hD hS => ?_)
  refine lv_if_ne (tgt := 34) hx hb dX5_give_21 (by decide) (fun c4 => ?_) (fun c4 => ?_)
  · rw [if_neg c4] at hf
    refine lv_aload_n hx hb dX5_give_34 rfl (lv_at hl 0 rfl) ?_
    refine g_get (C := RX5) (T := TX5) (N := 8) hx hb hts iwX5_give_X5 hown hK hP 0 0 rfl rfl rfl 4 (Nat.le_of_ble_eq_true rfl) (hts _ kX5_give_1) (fun _ h9 => h9) rfl dX5_give_35 ?_
    refine lv_aload_n hx hb dX5_give_38 rfl (lv_at hl 0 rfl) ?_
    refine g_get (C := RX5) (T := TX5) (N := 8) hx hb hts iwX5_give_X5 hown hK hP 0 0 rfl rfl rfl 0 (Nat.le_of_ble_eq_true rfl) (hts _ kX5_give_0) (fun _ h9 => h9) rfl dX5_give_39 ?_
    obtain ⟨q5, hq5, hf⟩ := bd_some hf
    refine g_callVv S (As := [.ref (a1 0)]) (gs' := [maW a0 (a1 0) (a2 0) (a3 0) (a4 0) (a7 0 0) (a8 0) (a9 0) (a9 1), stW G a1 v1, paW G a7 q5.2]) (c_X0_remember l G a7 a1 v7 v1 hq5) (cwV 1 hts gX5_give_X0_remember rfl rfl rfl hd_X0_remember ⟨Nat.le_of_ble_eq_true rfl, Nat.le_of_ble_eq_true rfl⟩) hK hP hD hS hA (is := [2, 1]) rfl rfl 2 rfl rfl rfl rfl hl.1 rfl (Nat.le_of_ble_eq_true rfl) dX5_give_42 ⟨Nat.le_of_ble_eq_true rfl, Nat.le_of_ble_eq_true rfl⟩ rfl (fun H locs hP hD hS => ?_)
    refine lv_aload_n hx hb dX5_give_45 rfl (lv_at hl 0 rfl) ?_
    refine g_get (C := RX5) (T := TX5) (N := 8) hx hb hts iwX5_give_X5 hown hK hP 0 0 rfl rfl rfl 0 (Nat.le_of_ble_eq_true rfl) (hts _ kX5_give_0) (fun _ h9 => h9) rfl dX5_give_46 ?_
    refine lv_iload_n hx hb dX5_give_49 rfl (lv_at hl 1 rfl) ?_
    refine lv_iload_n hx hb dX5_give_50 rfl (lv_at hl 2 rfl) ?_
    obtain ⟨q6, hq6, hf⟩ := bd_some hf
    refine g_callVv S (As := [.int i1, .int i2]) (gs' := [maW a0 (a1 0) (a2 0) (a3 0) (a4 0) (a7 0 0) (a8 0) (a9 0) (a9 1), stW G a1 q6.2, paW G a7 q5.2]) (c_X3_receive l G a1 v1 i1 i2 hq6) (cwV 2 hts gX5_give_X3_receive rfl rfl rfl hd_X3_receive ⟨Nat.le_of_ble_eq_true rfl, Nat.le_of_ble_eq_true rfl⟩) hK hP hD hS hA (is := [1]) rfl rfl 1 rfl rfl rfl rfl hl.1 rfl (Nat.le_of_ble_eq_true rfl) dX5_give_51 ⟨Nat.le_of_ble_eq_true rfl, Nat.le_of_ble_eq_true rfl⟩ rfl (fun H locs hP hD hS => ?_)
    refine lv_aload_n hx hb dX5_give_54 rfl (lv_at hl 0 rfl) ?_
    refine g_get (C := RX5) (T := TX5) (N := 8) hx hb hts iwX5_give_X5 hown hK hP 0 0 rfl rfl rfl 0 (Nat.le_of_ble_eq_true rfl) (hts _ kX5_give_0) (fun _ h9 => h9) rfl dX5_give_55 ?_
    refine g_get (C := RX3) (T := TX3) (N := 17) hx hb hts iwX5_give_X3 hown hK hP 1 0 rfl rfl rfl 5 (Nat.le_of_ble_eq_true rfl) (hts _ kX5_give_2) (fun _ h9 => h9) rfl dX5_give_58 ?_
    refine lv_iload_n hx hb dX5_give_61 rfl (lv_at hl 1 rfl) ?_
    obtain ⟨h7, hf⟩ := gi_some hf
    refine g_iald hx hb hK hP 1 1 0 rfl rfl rfl h7 dX5_give_62 ?_
    cases hf
    exact g_iret hx hb hr hlocks hP hS dX5_give_63
  · rw [if_pos c4] at hf
    cases hf
theorem kX5_month_0 : Cond.fieldLink RX5 10 "SavingsCircle" "now" "LSavingsCircle$State;" ∈ wsX5_month := (List.mem_cons_of_mem _ (List.mem_append_left _ (List.mem_append_left _ (List.mem_append_left _ (List.mem_append_left _ (List.mem_append_left _ (List.mem_append_left _ (List.mem_of_getElem? (i := 2) rfl))))))))
theorem kX5_month_1 : Cond.fieldLink RX5 36 "SavingsCircle" "past" "LSavingsCircle$Past;" ∈ wsX5_month := (List.mem_cons_of_mem _ (List.mem_append_left _ (List.mem_append_left _ (List.mem_append_left _ (List.mem_append_left _ (List.mem_append_left _ (List.mem_append_left _ (List.mem_of_getElem? (i := 3) rfl))))))))
theorem kX5_month_2 : Cond.fieldLink RX5 22 "SavingsCircle" "round" "LSavingsCircle$Round;" ∈ wsX5_month := (List.mem_cons_of_mem _ (List.mem_append_left _ (List.mem_append_left _ (List.mem_append_left _ (List.mem_append_left _ (List.mem_append_left _ (List.mem_append_left _ (List.mem_of_getElem? (i := 4) rfl))))))))
theorem iwX5_month_X5 : ∀ w ∈ wsX50, w ∈ wsX5_month := fun w h => (List.mem_cons_of_mem _ (List.mem_append_left _ (List.mem_append_left _ (List.mem_append_left _ (List.mem_append_left _ (List.mem_append_right _ h))))))
set_option maxHeartbeats 4000000 in
set_option maxRecDepth 100000 in
theorem c_X5_month (l : Launch) (G : uG) (a0 : Nat → Nat) (a1 : Nat → Nat) (a2 : Nat → Nat) (a3 : Nat → Nat) (a4 : Nat → Nat) (a5 : Nat → Nat) (a6 : Nat → Nat) (a7 : Nat → Nat → Nat) (a8 : Nat → Nat) (a9 : Nat → Nat) (a10 : Nat → Nat) (a11 : Nat → Nat) (v1 : StV) (v3 : RdV) (v7 : PaV) {q : Int32 × (StV × RdV × PaV)} (hf : f_X5_month v1 v3 v7 = some q) : mQ l yX5_month wsX5_month ({ frames := 4, cells := 0, slots := 0, locals := 93 } : Room) G [.ref (a0 0)] [maW a0 (a1 0) (a2 0) (a3 0) (a4 0) (a7 0 0) (a8 0) (a9 0) (a9 1), stW G a1 v1, rdW G a3 v3, paW G a7 v7] [maW a0 (a1 0) (a2 0) (a3 0) (a4 0) (a7 0 0) (a8 0) (a9 0) (a9 1), stW G a1 q.2.1, rdW G a3 q.2.2.1, paW G a7 q.2.2.2] (qI G [maW a0 (a1 0) (a2 0) (a3 0) (a4 0) (a7 0 0) (a8 0) (a9 0) (a9 1), stW G a1 q.2.1, rdW G a3 q.2.2.1, paW G a7 q.2.2.2] q.1) := by
  unfold f_X5_month at hf
  refine m_of (cc := cX5_month) (maxL := 1) (ret := (some .int)) (by decide) rfl rfl (Nat.le_of_ble_eq_true rfl) ?_
  intro p e s m args below meth c A ls S hK hA hP hD hS hl
  obtain ⟨hx, hb, hml, hown, hts, hr, hlocks⟩ := id S
  have hl : lv_has ls 1 [(0, .ref (a0 0))] := hl
  refine lv_aload_n hx hb dX5_month_0 rfl (lv_at hl 0 rfl) ?_
  refine g_get (C := RX5) (T := TX5) (N := 8) hx hb hts iwX5_month_X5 hown hK hP 0 0 rfl rfl rfl 0 (Nat.le_of_ble_eq_true rfl) (hts _ kX5_month_0) (fun _ h9 => h9) rfl dX5_month_1 ?_
  obtain ⟨q1, hq1, hf⟩ := bd_some hf
  refine g_callVi S (As := []) (gs' := [maW a0 (a1 0) (a2 0) (a3 0) (a4 0) (a7 0 0) (a8 0) (a9 0) (a9 1), stW G a1 v1, rdW G a3 v3, paW G a7 v7]) (c_X3_mayPass l G a1 v1 hq1) (cwV 0 hts gX5_month_X3_mayPass rfl rfl rfl hd_X3_mayPass ⟨Nat.le_of_ble_eq_true rfl, Nat.le_of_ble_eq_true rfl⟩) hK hP hD hS hA (is := [1]) rfl rfl 1 rfl rfl rfl rfl hl.1 rfl (Nat.le_of_ble_eq_true rfl) dX5_month_4 ⟨Nat.le_of_ble_eq_true rfl, Nat.le_of_ble_eq_true rfl⟩ rfl (fun H locs hP hD hS => ?_)
  refine lv_if_ne (tgt := 20) hx hb dX5_month_7 (by decide) (fun c2 => ?_) (fun c2 => ?_)
  · rw [if_neg c2] at hf
    refine lv_aload_n hx hb dX5_month_20 rfl (lv_at hl 0 rfl) ?_
    refine g_get (C := RX5) (T := TX5) (N := 8) hx hb hts iwX5_month_X5 hown hK hP 0 0 rfl rfl rfl 4 (Nat.le_of_ble_eq_true rfl) (hts _ kX5_month_1) (fun _ h9 => h9) rfl dX5_month_21 ?_
    refine lv_aload_n hx hb dX5_month_24 rfl (lv_at hl 0 rfl) ?_
    refine g_get (C := RX5) (T := TX5) (N := 8) hx hb hts iwX5_month_X5 hown hK hP 0 0 rfl rfl rfl 0 (Nat.le_of_ble_eq_true rfl) (hts _ kX5_month_0) (fun _ h9 => h9) rfl dX5_month_25 ?_
    obtain ⟨q3, hq3, hf⟩ := bd_some hf
    refine g_callVv S (As := [.ref (a1 0)]) (gs' := [maW a0 (a1 0) (a2 0) (a3 0) (a4 0) (a7 0 0) (a8 0) (a9 0) (a9 1), stW G a1 v1, rdW G a3 v3, paW G a7 q3.2]) (c_X0_remember l G a7 a1 v7 v1 hq3) (cwV 1 hts gX5_month_X0_remember rfl rfl rfl hd_X0_remember ⟨Nat.le_of_ble_eq_true rfl, Nat.le_of_ble_eq_true rfl⟩) hK hP hD hS hA (is := [3, 1]) rfl rfl 3 rfl rfl rfl rfl hl.1 rfl (Nat.le_of_ble_eq_true rfl) dX5_month_28 ⟨Nat.le_of_ble_eq_true rfl, Nat.le_of_ble_eq_true rfl⟩ rfl (fun H locs hP hD hS => ?_)
    refine lv_aload_n hx hb dX5_month_31 rfl (lv_at hl 0 rfl) ?_
    refine g_get (C := RX5) (T := TX5) (N := 8) hx hb hts iwX5_month_X5 hown hK hP 0 0 rfl rfl rfl 2 (Nat.le_of_ble_eq_true rfl) (hts _ kX5_month_2) (fun _ h9 => h9) rfl dX5_month_32 ?_
    refine lv_aload_n hx hb dX5_month_35 rfl (lv_at hl 0 rfl) ?_
    refine g_get (C := RX5) (T := TX5) (N := 8) hx hb hts iwX5_month_X5 hown hK hP 0 0 rfl rfl rfl 0 (Nat.le_of_ble_eq_true rfl) (hts _ kX5_month_0) (fun _ h9 => h9) rfl dX5_month_36 ?_
    obtain ⟨q4, hq4, hf⟩ := bd_some hf
    refine g_callVi S (As := [.ref (a1 0)]) (gs' := [maW a0 (a1 0) (a2 0) (a3 0) (a4 0) (a7 0 0) (a8 0) (a9 0) (a9 1), stW G a1 q4.2.2, rdW G a3 q4.2.1, paW G a7 q3.2]) (c_X1_pass l G a3 a1 v3 v1 hq4) (cwV 1 hts gX5_month_X1_pass rfl rfl rfl hd_X1_pass ⟨Nat.le_of_ble_eq_true rfl, Nat.le_of_ble_eq_true rfl⟩) hK hP hD hS hA (is := [2, 1]) rfl rfl 2 rfl rfl rfl rfl hl.1 rfl (Nat.le_of_ble_eq_true rfl) dX5_month_39 ⟨Nat.le_of_ble_eq_true rfl, Nat.le_of_ble_eq_true rfl⟩ rfl (fun H locs hP hD hS => ?_)
    cases hf
    exact g_iret hx hb hr hlocks hP hS dX5_month_42
  · rw [if_pos c2] at hf
    cases hf
theorem kX5_leave_0 : Cond.fieldLink RX5 10 "SavingsCircle" "now" "LSavingsCircle$State;" ∈ wsX5_leave := (List.mem_cons_of_mem _ (List.mem_append_left _ (List.mem_append_left _ (List.mem_append_left _ (List.mem_append_left _ (List.mem_append_left _ (List.mem_append_left _ (List.mem_of_getElem? (i := 2) rfl))))))))
theorem kX5_leave_1 : Cond.fieldLink RX5 36 "SavingsCircle" "past" "LSavingsCircle$Past;" ∈ wsX5_leave := (List.mem_cons_of_mem _ (List.mem_append_left _ (List.mem_append_left _ (List.mem_append_left _ (List.mem_append_left _ (List.mem_append_left _ (List.mem_append_left _ (List.mem_of_getElem? (i := 3) rfl))))))))
theorem iwX5_leave_X5 : ∀ w ∈ wsX50, w ∈ wsX5_leave := fun w h => (List.mem_cons_of_mem _ (List.mem_append_left _ (List.mem_append_left _ (List.mem_append_left _ (List.mem_append_left _ (List.mem_append_right _ h))))))
set_option maxHeartbeats 4000000 in
set_option maxRecDepth 100000 in
theorem c_X5_leave (l : Launch) (G : uG) (a0 : Nat → Nat) (a1 : Nat → Nat) (a2 : Nat → Nat) (a3 : Nat → Nat) (a4 : Nat → Nat) (a5 : Nat → Nat) (a6 : Nat → Nat) (a7 : Nat → Nat → Nat) (a8 : Nat → Nat) (a9 : Nat → Nat) (a10 : Nat → Nat) (a11 : Nat → Nat) (v1 : StV) (v7 : PaV) (i1 : Int32) {q : Int32 × (StV × PaV)} (hf : f_X5_leave v1 v7 i1 = some q) : mQ l yX5_leave wsX5_leave ({ frames := 3, cells := 0, slots := 0, locals := 65 } : Room) G [.ref (a0 0), .int i1] [maW a0 (a1 0) (a2 0) (a3 0) (a4 0) (a7 0 0) (a8 0) (a9 0) (a9 1), stW G a1 v1, paW G a7 v7] [maW a0 (a1 0) (a2 0) (a3 0) (a4 0) (a7 0 0) (a8 0) (a9 0) (a9 1), stW G a1 q.2.1, paW G a7 q.2.2] (qI G [maW a0 (a1 0) (a2 0) (a3 0) (a4 0) (a7 0 0) (a8 0) (a9 0) (a9 1), stW G a1 q.2.1, paW G a7 q.2.2] q.1) := by
  unfold f_X5_leave at hf
  refine m_of (cc := cX5_leave) (maxL := 2) (ret := (some .int)) (by decide) rfl rfl (Nat.le_of_ble_eq_true rfl) ?_
  intro p e s m args below meth c A ls S hK hA hP hD hS hl
  obtain ⟨hx, hb, hml, hown, hts, hr, hlocks⟩ := id S
  have hl : lv_has ls 2 [(0, .ref (a0 0)), (1, .int i1)] := hl
  refine lv_aload_n hx hb dX5_leave_0 rfl (lv_at hl 0 rfl) ?_
  refine lv_iload_n hx hb dX5_leave_1 rfl (lv_at hl 1 rfl) ?_
  obtain ⟨q1, hq1, hf⟩ := bd_some hf
  refine g_callVv S (As := [.int i1]) (gs' := [maW a0 (a1 0) (a2 0) (a3 0) (a4 0) (a7 0 0) (a8 0) (a9 0) (a9 1), stW G a1 v1, paW G a7 v7]) (c_X5_requireMember l G a0 a1 a2 a3 a4 a5 a6 a7 a8 a9 a10 a11 v1 i1 hq1) (cwV 1 hts gX5_leave_X5_requireMember rfl rfl rfl hd_X5_requireMember ⟨Nat.le_of_ble_eq_true rfl, Nat.le_of_ble_eq_true rfl⟩) hK hP hD hS hA (is := [0, 1]) rfl rfl 0 rfl rfl rfl rfl hl.1 rfl (Nat.le_of_ble_eq_true rfl) dX5_leave_2 ⟨Nat.le_of_ble_eq_true rfl, Nat.le_of_ble_eq_true rfl⟩ rfl (fun H locs hP hD hS => ?_)
  refine lv_aload_n hx hb dX5_leave_5 rfl (lv_at hl 0 rfl) ?_
  refine g_get (C := RX5) (T := TX5) (N := 8) hx hb hts iwX5_leave_X5 hown hK hP 0 0 rfl rfl rfl 0 (Nat.le_of_ble_eq_true rfl) (hts _ kX5_leave_0) (fun _ h9 => h9) rfl dX5_leave_6 ?_
  refine lv_iload_n hx hb dX5_leave_9 rfl (lv_at hl 1 rfl) ?_
  obtain ⟨q2, hq2, hf⟩ := bd_some hf
  refine g_callVi S (As := [.int i1]) (gs' := [maW a0 (a1 0) (a2 0) (a3 0) (a4 0) (a7 0 0) (a8 0) (a9 0) (a9 1), stW G a1 v1, paW G a7 v7]) (c_X3_mayGo l G a1 v1 i1 hq2) (cwV 1 hts gX5_leave_X3_mayGo rfl rfl rfl hd_X3_mayGo ⟨Nat.le_of_ble_eq_true rfl, Nat.le_of_ble_eq_true rfl⟩) hK hP hD hS hA (is := [1]) rfl rfl 1 rfl rfl rfl rfl hl.1 rfl (Nat.le_of_ble_eq_true rfl) dX5_leave_10 ⟨Nat.le_of_ble_eq_true rfl, Nat.le_of_ble_eq_true rfl⟩ rfl (fun H locs hP hD hS => ?_)
  refine lv_if_ne (tgt := 26) hx hb dX5_leave_13 (by decide) (fun c3 => ?_) (fun c3 => ?_)
  · rw [if_neg c3] at hf
    refine lv_aload_n hx hb dX5_leave_26 rfl (lv_at hl 0 rfl) ?_
    refine g_get (C := RX5) (T := TX5) (N := 8) hx hb hts iwX5_leave_X5 hown hK hP 0 0 rfl rfl rfl 4 (Nat.le_of_ble_eq_true rfl) (hts _ kX5_leave_1) (fun _ h9 => h9) rfl dX5_leave_27 ?_
    refine lv_aload_n hx hb dX5_leave_30 rfl (lv_at hl 0 rfl) ?_
    refine g_get (C := RX5) (T := TX5) (N := 8) hx hb hts iwX5_leave_X5 hown hK hP 0 0 rfl rfl rfl 0 (Nat.le_of_ble_eq_true rfl) (hts _ kX5_leave_0) (fun _ h9 => h9) rfl dX5_leave_31 ?_
    obtain ⟨q4, hq4, hf⟩ := bd_some hf
    refine g_callVv S (As := [.ref (a1 0)]) (gs' := [maW a0 (a1 0) (a2 0) (a3 0) (a4 0) (a7 0 0) (a8 0) (a9 0) (a9 1), stW G a1 v1, paW G a7 q4.2]) (c_X0_remember l G a7 a1 v7 v1 hq4) (cwV 1 hts gX5_leave_X0_remember rfl rfl rfl hd_X0_remember ⟨Nat.le_of_ble_eq_true rfl, Nat.le_of_ble_eq_true rfl⟩) hK hP hD hS hA (is := [2, 1]) rfl rfl 2 rfl rfl rfl rfl hl.1 rfl (Nat.le_of_ble_eq_true rfl) dX5_leave_34 ⟨Nat.le_of_ble_eq_true rfl, Nat.le_of_ble_eq_true rfl⟩ rfl (fun H locs hP hD hS => ?_)
    refine lv_aload_n hx hb dX5_leave_37 rfl (lv_at hl 0 rfl) ?_
    refine g_get (C := RX5) (T := TX5) (N := 8) hx hb hts iwX5_leave_X5 hown hK hP 0 0 rfl rfl rfl 0 (Nat.le_of_ble_eq_true rfl) (hts _ kX5_leave_0) (fun _ h9 => h9) rfl dX5_leave_38 ?_
    refine lv_iload_n hx hb dX5_leave_41 rfl (lv_at hl 1 rfl) ?_
    obtain ⟨q5, hq5, hf⟩ := bd_some hf
    refine g_callVi S (As := [.int i1]) (gs' := [maW a0 (a1 0) (a2 0) (a3 0) (a4 0) (a7 0 0) (a8 0) (a9 0) (a9 1), stW G a1 q5.2, paW G a7 q4.2]) (c_X3_go l G a1 v1 i1 hq5) (cwV 1 hts gX5_leave_X3_go rfl rfl rfl hd_X3_go ⟨Nat.le_of_ble_eq_true rfl, Nat.le_of_ble_eq_true rfl⟩) hK hP hD hS hA (is := [1]) rfl rfl 1 rfl rfl rfl rfl hl.1 rfl (Nat.le_of_ble_eq_true rfl) dX5_leave_42 ⟨Nat.le_of_ble_eq_true rfl, Nat.le_of_ble_eq_true rfl⟩ rfl (fun H locs hP hD hS => ?_)
    cases hf
    exact g_iret hx hb hr hlocks hP hS dX5_leave_45
  · rw [if_pos c3] at hf
    cases hf
theorem kX5_repay_0 : Cond.fieldLink RX5 36 "SavingsCircle" "past" "LSavingsCircle$Past;" ∈ wsX5_repay := (List.mem_cons_of_mem _ (List.mem_append_left _ (List.mem_append_left _ (List.mem_append_left _ (List.mem_append_left _ (List.mem_append_left _ (List.mem_append_left _ (List.mem_of_getElem? (i := 0) rfl))))))))
theorem kX5_repay_1 : Cond.fieldLink RX5 10 "SavingsCircle" "now" "LSavingsCircle$State;" ∈ wsX5_repay := (List.mem_cons_of_mem _ (List.mem_append_left _ (List.mem_append_left _ (List.mem_append_left _ (List.mem_append_left _ (List.mem_append_left _ (List.mem_append_left _ (List.mem_of_getElem? (i := 1) rfl))))))))
theorem kX5_repay_2 : Cond.fieldLink RX5 125 "SavingsCircle$State" "purse" "[I" ∈ wsX5_repay := (List.mem_cons_of_mem _ (List.mem_append_left _ (List.mem_append_left _ (List.mem_append_left _ (List.mem_append_left _ (List.mem_append_left _ (List.mem_append_left _ (List.mem_of_getElem? (i := 2) rfl))))))))
theorem iwX5_repay_X5 : ∀ w ∈ wsX50, w ∈ wsX5_repay := fun w h => (List.mem_cons_of_mem _ (List.mem_append_left _ (List.mem_append_left _ (List.mem_append_left _ (List.mem_append_left _ (List.mem_append_right _ h))))))
theorem iwX5_repay_X3 : ∀ w ∈ wsX30, w ∈ wsX5_repay := fun w h => (List.mem_cons_of_mem _ (List.mem_append_left _ (List.mem_append_left _ (List.mem_append_left _ (List.mem_append_right _ h)))))
set_option maxHeartbeats 4000000 in
set_option maxRecDepth 100000 in
theorem c_X5_repay (l : Launch) (G : uG) (a0 : Nat → Nat) (a1 : Nat → Nat) (a2 : Nat → Nat) (a3 : Nat → Nat) (a4 : Nat → Nat) (a5 : Nat → Nat) (a6 : Nat → Nat) (a7 : Nat → Nat → Nat) (a8 : Nat → Nat) (a9 : Nat → Nat) (a10 : Nat → Nat) (a11 : Nat → Nat) (v1 : StV) (v7 : PaV) (i1 : Int32) (i2 : Int32) {q : Int32 × (StV × PaV)} (hf : f_X5_repay v1 v7 i1 i2 = some q) : mQ l yX5_repay wsX5_repay ({ frames := 3, cells := 0, slots := 0, locals := 64 } : Room) G [.ref (a0 0), .int i1, .int i2] [maW a0 (a1 0) (a2 0) (a3 0) (a4 0) (a7 0 0) (a8 0) (a9 0) (a9 1), stW G a1 v1, paW G a7 v7] [maW a0 (a1 0) (a2 0) (a3 0) (a4 0) (a7 0 0) (a8 0) (a9 0) (a9 1), stW G a1 q.2.1, paW G a7 q.2.2] (qI G [maW a0 (a1 0) (a2 0) (a3 0) (a4 0) (a7 0 0) (a8 0) (a9 0) (a9 1), stW G a1 q.2.1, paW G a7 q.2.2] q.1) := by
  unfold f_X5_repay at hf
  refine m_of (cc := cX5_repay) (maxL := 4) (ret := (some .int)) (by decide) rfl rfl (Nat.le_of_ble_eq_true rfl) ?_
  intro p e s m args below meth c A ls S hK hA hP hD hS hl
  obtain ⟨hx, hb, hml, hown, hts, hr, hlocks⟩ := id S
  have hl : lv_has ls 4 [(0, .ref (a0 0)), (1, .int i1), (2, .int i2)] := hl
  refine lv_aload_n hx hb dX5_repay_0 rfl (lv_at hl 0 rfl) ?_
  refine lv_iload_n hx hb dX5_repay_1 rfl (lv_at hl 1 rfl) ?_
  refine lv_iload_n hx hb dX5_repay_2 rfl (lv_at hl 2 rfl) ?_
  obtain ⟨q1, hq1, hf⟩ := bd_some hf
  refine g_callVv S (As := [.int i1, .int i2]) (gs' := [maW a0 (a1 0) (a2 0) (a3 0) (a4 0) (a7 0 0) (a8 0) (a9 0) (a9 1), stW G a1 v1, paW G a7 v7]) (c_X5_requireTwoMembers l G a0 a1 a2 a3 a4 a5 a6 a7 a8 a9 a10 a11 v1 i1 i2 hq1) (cwV 2 hts gX5_repay_X5_requireTwoMembers rfl rfl rfl hd_X5_requireTwoMembers ⟨Nat.le_of_ble_eq_true rfl, Nat.le_of_ble_eq_true rfl⟩) hK hP hD hS hA (is := [0, 1]) rfl rfl 0 rfl rfl rfl rfl hl.1 rfl (Nat.le_of_ble_eq_true rfl) dX5_repay_3 ⟨Nat.le_of_ble_eq_true rfl, Nat.le_of_ble_eq_true rfl⟩ rfl (fun H locs hP hD hS => ?_)
  refine lv_aload_n hx hb dX5_repay_6 rfl (lv_at hl 0 rfl) ?_
  refine g_get (C := RX5) (T := TX5) (N := 8) hx hb hts iwX5_repay_X5 hown hK hP 0 0 rfl rfl rfl 4 (Nat.le_of_ble_eq_true rfl) (hts _ kX5_repay_0) (fun _ h9 => h9) rfl dX5_repay_7 ?_
  refine lv_aload_n hx hb dX5_repay_10 rfl (lv_at hl 0 rfl) ?_
  refine g_get (C := RX5) (T := TX5) (N := 8) hx hb hts iwX5_repay_X5 hown hK hP 0 0 rfl rfl rfl 0 (Nat.le_of_ble_eq_true rfl) (hts _ kX5_repay_1) (fun _ h9 => h9) rfl dX5_repay_11 ?_
  obtain ⟨q2, hq2, hf⟩ := bd_some hf
  refine g_callVv S (As := [.ref (a1 0)]) (gs' := [maW a0 (a1 0) (a2 0) (a3 0) (a4 0) (a7 0 0) (a8 0) (a9 0) (a9 1), stW G a1 v1, paW G a7 q2.2]) (c_X0_remember l G a7 a1 v7 v1 hq2) (cwV 1 hts gX5_repay_X0_remember rfl rfl rfl hd_X0_remember ⟨Nat.le_of_ble_eq_true rfl, Nat.le_of_ble_eq_true rfl⟩) hK hP hD hS hA (is := [2, 1]) rfl rfl 2 rfl rfl rfl rfl hl.1 rfl (Nat.le_of_ble_eq_true rfl) dX5_repay_14 ⟨Nat.le_of_ble_eq_true rfl, Nat.le_of_ble_eq_true rfl⟩ rfl (fun H locs hP hD hS => ?_)
  refine lv_aload_n hx hb dX5_repay_17 rfl (lv_at hl 0 rfl) ?_
  refine g_get (C := RX5) (T := TX5) (N := 8) hx hb hts iwX5_repay_X5 hown hK hP 0 0 rfl rfl rfl 0 (Nat.le_of_ble_eq_true rfl) (hts _ kX5_repay_1) (fun _ h9 => h9) rfl dX5_repay_18 ?_
  refine lv_iload_n hx hb dX5_repay_21 rfl (lv_at hl 1 rfl) ?_
  refine lv_iload_n hx hb dX5_repay_22 rfl (lv_at hl 2 rfl) ?_
  refine lv_aload_n hx hb dX5_repay_23 rfl (lv_at hl 0 rfl) ?_
  refine g_get (C := RX5) (T := TX5) (N := 8) hx hb hts iwX5_repay_X5 hown hK hP 0 0 rfl rfl rfl 0 (Nat.le_of_ble_eq_true rfl) (hts _ kX5_repay_1) (fun _ h9 => h9) rfl dX5_repay_24 ?_
  refine g_get (C := RX3) (T := TX3) (N := 17) hx hb hts iwX5_repay_X3 hown hK hP 1 0 rfl rfl rfl 5 (Nat.le_of_ble_eq_true rfl) (hts _ kX5_repay_2) (fun _ h9 => h9) rfl dX5_repay_27 ?_
  refine lv_iload_n hx hb dX5_repay_30 rfl (lv_at hl 1 rfl) ?_
  obtain ⟨h3, hf⟩ := gi_some hf
  refine g_iald hx hb hK hP 1 1 0 rfl rfl rfl h3 dX5_repay_31 ?_
  obtain ⟨q4, hq4, hf⟩ := bd_some hf
  refine g_callVi S (As := [.int i1, .int i2, .int (St_purse v1 i1.toNatClampNeg)]) (gs' := [maW a0 (a1 0) (a2 0) (a3 0) (a4 0) (a7 0 0) (a8 0) (a9 0) (a9 1), stW G a1 q4.2, paW G a7 q2.2]) (c_X3_settle l G a1 v1 i1 i2 (St_purse v1 i1.toNatClampNeg) hq4) (cwV 3 hts gX5_repay_X3_settle rfl rfl rfl hd_X3_settle ⟨Nat.le_of_ble_eq_true rfl, Nat.le_of_ble_eq_true rfl⟩) hK hP hD hS hA (is := [1]) rfl rfl 1 rfl rfl rfl rfl hl.1 rfl (Nat.le_of_ble_eq_true rfl) dX5_repay_32 ⟨Nat.le_of_ble_eq_true rfl, Nat.le_of_ble_eq_true rfl⟩ rfl (fun H locs hP hD hS => ?_)
  refine lv_istore_n (lv' := [(3, .int q4.1), (0, .ref (a0 0)), (1, .int i1), (2, .int i2)]) hx hb dX5_repay_35 rfl hl (by decide) rfl (fun ls hl => ?_)
  refine lv_aload_n hx hb dX5_repay_36 rfl (lv_at hl 1 rfl) ?_
  refine g_get (C := RX5) (T := TX5) (N := 8) hx hb hts iwX5_repay_X5 hown hK hP 0 0 rfl rfl rfl 0 (Nat.le_of_ble_eq_true rfl) (hts _ kX5_repay_1) (fun _ h9 => h9) rfl dX5_repay_37 ?_
  refine g_get (C := RX3) (T := TX3) (N := 17) hx hb hts iwX5_repay_X3 hown hK hP 1 0 rfl rfl rfl 5 (Nat.le_of_ble_eq_true rfl) (hts _ kX5_repay_2) (fun _ h9 => h9) rfl dX5_repay_40 ?_
  refine lv_iload_n hx hb dX5_repay_43 rfl (lv_at hl 2 rfl) ?_
  refine lv_dup2_11 hx hb dX5_repay_44 rfl rfl ?_
  obtain ⟨h5, hf⟩ := gi_some hf
  refine g_iald hx hb hK hP 1 1 0 rfl rfl rfl h5 dX5_repay_45 ?_
  refine lv_iload_n hx hb dX5_repay_46 rfl (lv_at hl 0 rfl) ?_
  refine lv_isub hx hb dX5_repay_47 ?_
  obtain ⟨h6, hf⟩ := gi_some hf
  obtain ⟨u7, eu7, hf⟩ := lt_some hf
  refine g_iast (gs' := [maW a0 (a1 0) (a2 0) (a3 0) (a4 0) (a7 0 0) (a8 0) (a9 0) (a9 1), stW G a1 u7, paW G a7 q2.2]) hx hb hK hP hD hS 1 1 0 rfl rfl rfl h6 dX5_repay_48 (by rw [eu7]; rfl) (fun H locs hP hD hS => ?_)
  refine lv_iload_n hx hb dX5_repay_49 rfl (lv_at hl 0 rfl) ?_
  cases hf
  exact g_iret hx hb hr hlocks hP hS dX5_repay_50
theorem kX5_undo_0 : Cond.fieldLink RX5 36 "SavingsCircle" "past" "LSavingsCircle$Past;" ∈ wsX5_undo := (List.mem_cons_of_mem _ (List.mem_append_left _ (List.mem_append_left _ (List.mem_append_left _ (List.mem_append_left _ (List.mem_append_left _ (List.mem_of_getElem? (i := 2) rfl)))))))
theorem kX5_undo_1 : Cond.fieldLink RX5 222 "SavingsCircle$Past" "size" "I" ∈ wsX5_undo := (List.mem_cons_of_mem _ (List.mem_append_left _ (List.mem_append_left _ (List.mem_append_left _ (List.mem_append_left _ (List.mem_append_left _ (List.mem_of_getElem? (i := 3) rfl)))))))
theorem kX5_undo_2 : Cond.fieldLink RX5 10 "SavingsCircle" "now" "LSavingsCircle$State;" ∈ wsX5_undo := (List.mem_cons_of_mem _ (List.mem_append_left _ (List.mem_append_left _ (List.mem_append_left _ (List.mem_append_left _ (List.mem_append_left _ (List.mem_of_getElem? (i := 4) rfl)))))))
theorem iwX5_undo_X5 : ∀ w ∈ wsX50, w ∈ wsX5_undo := fun w h => (List.mem_cons_of_mem _ (List.mem_append_left _ (List.mem_append_left _ (List.mem_append_left _ (List.mem_append_right _ h)))))
theorem iwX5_undo_X0 : ∀ w ∈ wsX00, w ∈ wsX5_undo := fun w h => (List.mem_cons_of_mem _ (List.mem_append_left _ (List.mem_append_left _ (List.mem_append_right _ h))))
set_option maxHeartbeats 4000000 in
set_option maxRecDepth 100000 in
theorem c_X5_undo (l : Launch) (G : uG) (a0 : Nat → Nat) (a1 : Nat → Nat) (a2 : Nat → Nat) (a3 : Nat → Nat) (a4 : Nat → Nat) (a5 : Nat → Nat) (a6 : Nat → Nat) (a7 : Nat → Nat → Nat) (a8 : Nat → Nat) (a9 : Nat → Nat) (a10 : Nat → Nat) (a11 : Nat → Nat) (v1 : StV) (v7 : PaV) {q : Int32 × (StV × PaV)} (hf : f_X5_undo v1 v7 = some q) : mQ l yX5_undo wsX5_undo ({ frames := 2, cells := 0, slots := 0, locals := 43 } : Room) G [.ref (a0 0)] [maW a0 (a1 0) (a2 0) (a3 0) (a4 0) (a7 0 0) (a8 0) (a9 0) (a9 1), stW G a1 v1, paW G a7 v7] [maW a0 (a1 0) (a2 0) (a3 0) (a4 0) (a7 0 0) (a8 0) (a9 0) (a9 1), stW G a1 q.2.1, paW G a7 q.2.2] (qI G [maW a0 (a1 0) (a2 0) (a3 0) (a4 0) (a7 0 0) (a8 0) (a9 0) (a9 1), stW G a1 q.2.1, paW G a7 q.2.2] q.1) := by
  unfold f_X5_undo at hf
  refine m_of (cc := cX5_undo) (maxL := 1) (ret := (some .int)) (by decide) rfl rfl (Nat.le_of_ble_eq_true rfl) ?_
  intro p e s m args below meth c A ls S hK hA hP hD hS hl
  obtain ⟨hx, hb, hml, hown, hts, hr, hlocks⟩ := id S
  have hl : lv_has ls 1 [(0, .ref (a0 0))] := hl
  refine lv_aload_n hx hb dX5_undo_0 rfl (lv_at hl 0 rfl) ?_
  refine g_get (C := RX5) (T := TX5) (N := 8) hx hb hts iwX5_undo_X5 hown hK hP 0 0 rfl rfl rfl 4 (Nat.le_of_ble_eq_true rfl) (hts _ kX5_undo_0) (fun _ h9 => h9) rfl dX5_undo_1 ?_
  refine g_get (C := RX0) (T := TX0) (N := 3) hx hb hts iwX5_undo_X0 hown hK hP 2 0 rfl rfl rfl 1 (Nat.le_of_ble_eq_true rfl) (hts _ kX5_undo_1) (fun _ h9 => h9) rfl dX5_undo_4 ?_
  refine lv_if_gt (tgt := 20) hx hb dX5_undo_7 (by decide) (fun c1 => ?_) (fun c1 => ?_)
  · rw [if_pos c1] at hf
    refine lv_aload_n hx hb dX5_undo_20 rfl (lv_at hl 0 rfl) ?_
    refine g_get (C := RX5) (T := TX5) (N := 8) hx hb hts iwX5_undo_X5 hown hK hP 0 0 rfl rfl rfl 4 (Nat.le_of_ble_eq_true rfl) (hts _ kX5_undo_0) (fun _ h9 => h9) rfl dX5_undo_21 ?_
    refine lv_aload_n hx hb dX5_undo_24 rfl (lv_at hl 0 rfl) ?_
    refine g_get (C := RX5) (T := TX5) (N := 8) hx hb hts iwX5_undo_X5 hown hK hP 0 0 rfl rfl rfl 0 (Nat.le_of_ble_eq_true rfl) (hts _ kX5_undo_2) (fun _ h9 => h9) rfl dX5_undo_25 ?_
    obtain ⟨q2, hq2, hf⟩ := bd_some hf
    refine g_callVi S (As := [.ref (a1 0)]) (gs' := [maW a0 (a1 0) (a2 0) (a3 0) (a4 0) (a7 0 0) (a8 0) (a9 0) (a9 1), stW G a1 q2.2.2, paW G a7 q2.2.1]) (c_X0_takeBack l G a7 a1 v7 v1 hq2) (cwV 1 hts gX5_undo_X0_takeBack rfl rfl rfl hd_X0_takeBack ⟨Nat.le_of_ble_eq_true rfl, Nat.le_of_ble_eq_true rfl⟩) hK hP hD hS hA (is := [2, 1]) rfl rfl 2 rfl rfl rfl rfl hl.1 rfl (Nat.le_of_ble_eq_true rfl) dX5_undo_28 ⟨Nat.le_of_ble_eq_true rfl, Nat.le_of_ble_eq_true rfl⟩ rfl (fun H locs hP hD hS => ?_)
    cases hf
    exact g_iret hx hb hr hlocks hP hS dX5_undo_31
  · rw [if_neg c1] at hf
    cases hf
theorem kX5_winner_0 : Cond.fieldLink RX5 16 "SavingsCircle" "trial" "LSavingsCircle$State;" ∈ wsX5_winner := (List.mem_cons_of_mem _ (List.mem_append_left _ (List.mem_append_left _ (List.mem_append_left _ (List.mem_append_left _ (List.mem_of_getElem? (i := 0) rfl))))))
theorem kX5_winner_1 : Cond.fieldLink RX5 10 "SavingsCircle" "now" "LSavingsCircle$State;" ∈ wsX5_winner := (List.mem_cons_of_mem _ (List.mem_append_left _ (List.mem_append_left _ (List.mem_append_left _ (List.mem_append_left _ (List.mem_of_getElem? (i := 1) rfl))))))
theorem kX5_winner_2 : Cond.fieldLink RX5 22 "SavingsCircle" "round" "LSavingsCircle$Round;" ∈ wsX5_winner := (List.mem_cons_of_mem _ (List.mem_append_left _ (List.mem_append_left _ (List.mem_append_left _ (List.mem_append_left _ (List.mem_of_getElem? (i := 2) rfl))))))
theorem iwX5_winner_X5 : ∀ w ∈ wsX50, w ∈ wsX5_winner := fun w h => (List.mem_cons_of_mem _ (List.mem_append_left _ (List.mem_append_left _ (List.mem_append_right _ h))))
set_option maxHeartbeats 4000000 in
set_option maxRecDepth 100000 in
theorem c_X5_winner (l : Launch) (G : uG) (a0 : Nat → Nat) (a1 : Nat → Nat) (a2 : Nat → Nat) (a3 : Nat → Nat) (a4 : Nat → Nat) (a5 : Nat → Nat) (a6 : Nat → Nat) (a7 : Nat → Nat → Nat) (a8 : Nat → Nat) (a9 : Nat → Nat) (a10 : Nat → Nat) (a11 : Nat → Nat) (v1 : StV) (v2 : StV) (v3 : RdV) {q : Int32 × (StV × RdV)} (hf : f_X5_winner v1 v2 v3 = some q) : mQ l yX5_winner wsX5_winner ({ frames := 4, cells := 0, slots := 0, locals := 93 } : Room) G [.ref (a0 0)] [maW a0 (a1 0) (a2 0) (a3 0) (a4 0) (a7 0 0) (a8 0) (a9 0) (a9 1), stW G a1 v1, stW G a2 v2, rdW G a3 v3] [maW a0 (a1 0) (a2 0) (a3 0) (a4 0) (a7 0 0) (a8 0) (a9 0) (a9 1), stW G a1 v1, stW G a2 q.2.1, rdW G a3 q.2.2] (qI G [maW a0 (a1 0) (a2 0) (a3 0) (a4 0) (a7 0 0) (a8 0) (a9 0) (a9 1), stW G a1 v1, stW G a2 q.2.1, rdW G a3 q.2.2] q.1) := by
  unfold f_X5_winner at hf
  refine m_of (cc := cX5_winner) (maxL := 1) (ret := (some .int)) (by decide) rfl rfl (Nat.le_of_ble_eq_true rfl) ?_
  intro p e s m args below meth c A ls S hK hA hP hD hS hl
  obtain ⟨hx, hb, hml, hown, hts, hr, hlocks⟩ := id S
  have hl : lv_has ls 1 [(0, .ref (a0 0))] := hl
  refine lv_aload_n hx hb dX5_winner_0 rfl (lv_at hl 0 rfl) ?_
  refine g_get (C := RX5) (T := TX5) (N := 8) hx hb hts iwX5_winner_X5 hown hK hP 0 0 rfl rfl rfl 1 (Nat.le_of_ble_eq_true rfl) (hts _ kX5_winner_0) (fun _ h9 => h9) rfl dX5_winner_1 ?_
  refine lv_aload_n hx hb dX5_winner_4 rfl (lv_at hl 0 rfl) ?_
  refine g_get (C := RX5) (T := TX5) (N := 8) hx hb hts iwX5_winner_X5 hown hK hP 0 0 rfl rfl rfl 0 (Nat.le_of_ble_eq_true rfl) (hts _ kX5_winner_1) (fun _ h9 => h9) rfl dX5_winner_5 ?_
  obtain ⟨q1, hq1, hf⟩ := bd_some hf
  refine g_callVv S (As := [.ref (a1 0)]) (gs' := [maW a0 (a1 0) (a2 0) (a3 0) (a4 0) (a7 0 0) (a8 0) (a9 0) (a9 1), stW G a1 v1, stW G a2 q1.2, rdW G a3 v3]) (c_X3_copyFrom l G a2 a1 v2 v1 hq1) (cwV 1 hts gX5_winner_X3_copyFrom rfl rfl rfl hd_X3_copyFrom ⟨Nat.le_of_ble_eq_true rfl, Nat.le_of_ble_eq_true rfl⟩) hK hP hD hS hA (is := [2, 1]) rfl rfl 2 rfl rfl rfl rfl hl.1 rfl (Nat.le_of_ble_eq_true rfl) dX5_winner_8 ⟨Nat.le_of_ble_eq_true rfl, Nat.le_of_ble_eq_true rfl⟩ rfl (fun H locs hP hD hS => ?_)
  refine lv_aload_n hx hb dX5_winner_11 rfl (lv_at hl 0 rfl) ?_
  refine g_get (C := RX5) (T := TX5) (N := 8) hx hb hts iwX5_winner_X5 hown hK hP 0 0 rfl rfl rfl 2 (Nat.le_of_ble_eq_true rfl) (hts _ kX5_winner_2) (fun _ h9 => h9) rfl dX5_winner_12 ?_
  refine lv_aload_n hx hb dX5_winner_15 rfl (lv_at hl 0 rfl) ?_
  refine g_get (C := RX5) (T := TX5) (N := 8) hx hb hts iwX5_winner_X5 hown hK hP 0 0 rfl rfl rfl 1 (Nat.le_of_ble_eq_true rfl) (hts _ kX5_winner_0) (fun _ h9 => h9) rfl dX5_winner_16 ?_
  obtain ⟨q2, hq2, hf⟩ := bd_some hf
  refine g_callVi S (As := [.ref (a2 0)]) (gs' := [maW a0 (a1 0) (a2 0) (a3 0) (a4 0) (a7 0 0) (a8 0) (a9 0) (a9 1), stW G a1 v1, stW G a2 q2.2.2, rdW G a3 q2.2.1]) (c_X1_pass l G a3 a2 v3 q1.2 hq2) (cwV 1 hts gX5_winner_X1_pass rfl rfl rfl hd_X1_pass ⟨Nat.le_of_ble_eq_true rfl, Nat.le_of_ble_eq_true rfl⟩) hK hP hD hS hA (is := [3, 2]) rfl rfl 3 rfl rfl rfl rfl hl.1 rfl (Nat.le_of_ble_eq_true rfl) dX5_winner_19 ⟨Nat.le_of_ble_eq_true rfl, Nat.le_of_ble_eq_true rfl⟩ rfl (fun H locs hP hD hS => ?_)
  cases hf
  exact g_iret hx hb hr hlocks hP hS dX5_winner_22
theorem kX5_pot_0 : Cond.fieldLink RX5 16 "SavingsCircle" "trial" "LSavingsCircle$State;" ∈ wsX5_pot := (List.mem_cons_of_mem _ (List.mem_append_left _ (List.mem_append_left _ (List.mem_append_left _ (List.mem_append_left _ (List.mem_of_getElem? (i := 0) rfl))))))
theorem kX5_pot_1 : Cond.fieldLink RX5 10 "SavingsCircle" "now" "LSavingsCircle$State;" ∈ wsX5_pot := (List.mem_cons_of_mem _ (List.mem_append_left _ (List.mem_append_left _ (List.mem_append_left _ (List.mem_append_left _ (List.mem_of_getElem? (i := 1) rfl))))))
theorem kX5_pot_2 : Cond.fieldLink RX5 22 "SavingsCircle" "round" "LSavingsCircle$Round;" ∈ wsX5_pot := (List.mem_cons_of_mem _ (List.mem_append_left _ (List.mem_append_left _ (List.mem_append_left _ (List.mem_append_left _ (List.mem_of_getElem? (i := 2) rfl))))))
theorem kX5_pot_3 : Cond.fieldLink RX5 233 "SavingsCircle$Round" "pence" "I" ∈ wsX5_pot := (List.mem_cons_of_mem _ (List.mem_append_left _ (List.mem_append_left _ (List.mem_append_left _ (List.mem_append_left _ (List.mem_of_getElem? (i := 3) rfl))))))
theorem iwX5_pot_X5 : ∀ w ∈ wsX50, w ∈ wsX5_pot := fun w h => (List.mem_cons_of_mem _ (List.mem_append_left _ (List.mem_append_left _ (List.mem_append_right _ h))))
theorem iwX5_pot_X1 : ∀ w ∈ wsX10, w ∈ wsX5_pot := fun w h => (List.mem_cons_of_mem _ (List.mem_append_left _ (List.mem_append_right _ h)))
set_option maxHeartbeats 4000000 in
set_option maxRecDepth 100000 in
theorem c_X5_pot (l : Launch) (G : uG) (a0 : Nat → Nat) (a1 : Nat → Nat) (a2 : Nat → Nat) (a3 : Nat → Nat) (a4 : Nat → Nat) (a5 : Nat → Nat) (a6 : Nat → Nat) (a7 : Nat → Nat → Nat) (a8 : Nat → Nat) (a9 : Nat → Nat) (a10 : Nat → Nat) (a11 : Nat → Nat) (v1 : StV) (v2 : StV) (v3 : RdV) {q : Int32 × (StV × RdV)} (hf : f_X5_pot v1 v2 v3 = some q) : mQ l yX5_pot wsX5_pot ({ frames := 3, cells := 0, slots := 0, locals := 66 } : Room) G [.ref (a0 0)] [maW a0 (a1 0) (a2 0) (a3 0) (a4 0) (a7 0 0) (a8 0) (a9 0) (a9 1), stW G a1 v1, stW G a2 v2, rdW G a3 v3] [maW a0 (a1 0) (a2 0) (a3 0) (a4 0) (a7 0 0) (a8 0) (a9 0) (a9 1), stW G a1 v1, stW G a2 q.2.1, rdW G a3 q.2.2] (qI G [maW a0 (a1 0) (a2 0) (a3 0) (a4 0) (a7 0 0) (a8 0) (a9 0) (a9 1), stW G a1 v1, stW G a2 q.2.1, rdW G a3 q.2.2] q.1) := by
  unfold f_X5_pot at hf
  refine m_of (cc := cX5_pot) (maxL := 1) (ret := (some .int)) (by decide) rfl rfl (Nat.le_of_ble_eq_true rfl) ?_
  intro p e s m args below meth c A ls S hK hA hP hD hS hl
  obtain ⟨hx, hb, hml, hown, hts, hr, hlocks⟩ := id S
  have hl : lv_has ls 1 [(0, .ref (a0 0))] := hl
  refine lv_aload_n hx hb dX5_pot_0 rfl (lv_at hl 0 rfl) ?_
  refine g_get (C := RX5) (T := TX5) (N := 8) hx hb hts iwX5_pot_X5 hown hK hP 0 0 rfl rfl rfl 1 (Nat.le_of_ble_eq_true rfl) (hts _ kX5_pot_0) (fun _ h9 => h9) rfl dX5_pot_1 ?_
  refine lv_aload_n hx hb dX5_pot_4 rfl (lv_at hl 0 rfl) ?_
  refine g_get (C := RX5) (T := TX5) (N := 8) hx hb hts iwX5_pot_X5 hown hK hP 0 0 rfl rfl rfl 0 (Nat.le_of_ble_eq_true rfl) (hts _ kX5_pot_1) (fun _ h9 => h9) rfl dX5_pot_5 ?_
  obtain ⟨q1, hq1, hf⟩ := bd_some hf
  refine g_callVv S (As := [.ref (a1 0)]) (gs' := [maW a0 (a1 0) (a2 0) (a3 0) (a4 0) (a7 0 0) (a8 0) (a9 0) (a9 1), stW G a1 v1, stW G a2 q1.2, rdW G a3 v3]) (c_X3_copyFrom l G a2 a1 v2 v1 hq1) (cwV 1 hts gX5_pot_X3_copyFrom rfl rfl rfl hd_X3_copyFrom ⟨Nat.le_of_ble_eq_true rfl, Nat.le_of_ble_eq_true rfl⟩) hK hP hD hS hA (is := [2, 1]) rfl rfl 2 rfl rfl rfl rfl hl.1 rfl (Nat.le_of_ble_eq_true rfl) dX5_pot_8 ⟨Nat.le_of_ble_eq_true rfl, Nat.le_of_ble_eq_true rfl⟩ rfl (fun H locs hP hD hS => ?_)
  refine lv_aload_n hx hb dX5_pot_11 rfl (lv_at hl 0 rfl) ?_
  refine g_get (C := RX5) (T := TX5) (N := 8) hx hb hts iwX5_pot_X5 hown hK hP 0 0 rfl rfl rfl 2 (Nat.le_of_ble_eq_true rfl) (hts _ kX5_pot_2) (fun _ h9 => h9) rfl dX5_pot_12 ?_
  refine lv_aload_n hx hb dX5_pot_15 rfl (lv_at hl 0 rfl) ?_
  refine g_get (C := RX5) (T := TX5) (N := 8) hx hb hts iwX5_pot_X5 hown hK hP 0 0 rfl rfl rfl 1 (Nat.le_of_ble_eq_true rfl) (hts _ kX5_pot_0) (fun _ h9 => h9) rfl dX5_pot_16 ?_
  obtain ⟨q2, hq2, hf⟩ := bd_some hf
  refine g_callVv S (As := [.ref (a2 0)]) (gs' := [maW a0 (a1 0) (a2 0) (a3 0) (a4 0) (a7 0 0) (a8 0) (a9 0) (a9 1), stW G a1 v1, stW G a2 q2.2.2, rdW G a3 q2.2.1]) (c_X1_payIn l G a3 a2 v3 q1.2 hq2) (cwV 1 hts gX5_pot_X1_payIn rfl rfl rfl hd_X1_payIn ⟨Nat.le_of_ble_eq_true rfl, Nat.le_of_ble_eq_true rfl⟩) hK hP hD hS hA (is := [3, 2]) rfl rfl 3 rfl rfl rfl rfl hl.1 rfl (Nat.le_of_ble_eq_true rfl) dX5_pot_19 ⟨Nat.le_of_ble_eq_true rfl, Nat.le_of_ble_eq_true rfl⟩ rfl (fun H locs hP hD hS => ?_)
  refine lv_aload_n hx hb dX5_pot_22 rfl (lv_at hl 0 rfl) ?_
  refine g_get (C := RX5) (T := TX5) (N := 8) hx hb hts iwX5_pot_X5 hown hK hP 0 0 rfl rfl rfl 2 (Nat.le_of_ble_eq_true rfl) (hts _ kX5_pot_2) (fun _ h9 => h9) rfl dX5_pot_23 ?_
  refine g_get (C := RX1) (T := TX1) (N := 3) hx hb hts iwX5_pot_X1 hown hK hP 3 0 rfl rfl rfl 2 (Nat.le_of_ble_eq_true rfl) (hts _ kX5_pot_3) (fun _ h9 => h9) rfl dX5_pot_26 ?_
  cases hf
  exact g_iret hx hb hr hlocks hP hS dX5_pot_29
theorem kX5_change_0 : Cond.fieldLink RX5 16 "SavingsCircle" "trial" "LSavingsCircle$State;" ∈ wsX5_change := (List.mem_cons_of_mem _ (List.mem_append_left _ (List.mem_append_left _ (List.mem_append_left _ (List.mem_append_left _ (List.mem_append_left _ (List.mem_of_getElem? (i := 0) rfl)))))))
theorem kX5_change_1 : Cond.fieldLink RX5 10 "SavingsCircle" "now" "LSavingsCircle$State;" ∈ wsX5_change := (List.mem_cons_of_mem _ (List.mem_append_left _ (List.mem_append_left _ (List.mem_append_left _ (List.mem_append_left _ (List.mem_append_left _ (List.mem_of_getElem? (i := 1) rfl)))))))
theorem kX5_change_2 : Cond.fieldLink RX5 22 "SavingsCircle" "round" "LSavingsCircle$Round;" ∈ wsX5_change := (List.mem_cons_of_mem _ (List.mem_append_left _ (List.mem_append_left _ (List.mem_append_left _ (List.mem_append_left _ (List.mem_append_left _ (List.mem_of_getElem? (i := 2) rfl)))))))
theorem kX5_change_3 : Cond.fieldLink RX5 125 "SavingsCircle$State" "purse" "[I" ∈ wsX5_change := (List.mem_cons_of_mem _ (List.mem_append_left _ (List.mem_append_left _ (List.mem_append_left _ (List.mem_append_left _ (List.mem_append_left _ (List.mem_of_getElem? (i := 3) rfl)))))))
theorem iwX5_change_X5 : ∀ w ∈ wsX50, w ∈ wsX5_change := fun w h => (List.mem_cons_of_mem _ (List.mem_append_left _ (List.mem_append_left _ (List.mem_append_left _ (List.mem_append_right _ h)))))
theorem iwX5_change_X3 : ∀ w ∈ wsX30, w ∈ wsX5_change := fun w h => (List.mem_cons_of_mem _ (List.mem_append_left _ (List.mem_append_left _ (List.mem_append_right _ h))))
set_option maxHeartbeats 4000000 in
set_option maxRecDepth 100000 in
theorem c_X5_change (l : Launch) (G : uG) (a0 : Nat → Nat) (a1 : Nat → Nat) (a2 : Nat → Nat) (a3 : Nat → Nat) (a4 : Nat → Nat) (a5 : Nat → Nat) (a6 : Nat → Nat) (a7 : Nat → Nat → Nat) (a8 : Nat → Nat) (a9 : Nat → Nat) (a10 : Nat → Nat) (a11 : Nat → Nat) (v1 : StV) (v2 : StV) (v3 : RdV) (i1 : Int32) {q : Int32 × (StV × RdV)} (hf : f_X5_change v1 v2 v3 i1 = some q) : mQ l yX5_change wsX5_change ({ frames := 4, cells := 0, slots := 0, locals := 93 } : Room) G [.ref (a0 0), .int i1] [maW a0 (a1 0) (a2 0) (a3 0) (a4 0) (a7 0 0) (a8 0) (a9 0) (a9 1), stW G a1 v1, stW G a2 v2, rdW G a3 v3] [maW a0 (a1 0) (a2 0) (a3 0) (a4 0) (a7 0 0) (a8 0) (a9 0) (a9 1), stW G a1 v1, stW G a2 q.2.1, rdW G a3 q.2.2] (qI G [maW a0 (a1 0) (a2 0) (a3 0) (a4 0) (a7 0 0) (a8 0) (a9 0) (a9 1), stW G a1 v1, stW G a2 q.2.1, rdW G a3 q.2.2] q.1) := by
  unfold f_X5_change at hf
  refine m_of (cc := cX5_change) (maxL := 2) (ret := (some .int)) (by decide) rfl rfl (Nat.le_of_ble_eq_true rfl) ?_
  intro p e s m args below meth c A ls S hK hA hP hD hS hl
  obtain ⟨hx, hb, hml, hown, hts, hr, hlocks⟩ := id S
  have hl : lv_has ls 2 [(0, .ref (a0 0)), (1, .int i1)] := hl
  refine lv_aload_n hx hb dX5_change_0 rfl (lv_at hl 0 rfl) ?_
  refine lv_iload_n hx hb dX5_change_1 rfl (lv_at hl 1 rfl) ?_
  obtain ⟨q1, hq1, hf⟩ := bd_some hf
  refine g_callVv S (As := [.int i1]) (gs' := [maW a0 (a1 0) (a2 0) (a3 0) (a4 0) (a7 0 0) (a8 0) (a9 0) (a9 1), stW G a1 v1, stW G a2 v2, rdW G a3 v3]) (c_X5_requireMember l G a0 a1 a2 a3 a4 a5 a6 a7 a8 a9 a10 a11 v1 i1 hq1) (cwV 1 hts gX5_change_X5_requireMember rfl rfl rfl hd_X5_requireMember ⟨Nat.le_of_ble_eq_true rfl, Nat.le_of_ble_eq_true rfl⟩) hK hP hD hS hA (is := [0, 1]) rfl rfl 0 rfl rfl rfl rfl hl.1 rfl (Nat.le_of_ble_eq_true rfl) dX5_change_2 ⟨Nat.le_of_ble_eq_true rfl, Nat.le_of_ble_eq_true rfl⟩ rfl (fun H locs hP hD hS => ?_)
  refine lv_aload_n hx hb dX5_change_5 rfl (lv_at hl 0 rfl) ?_
  refine g_get (C := RX5) (T := TX5) (N := 8) hx hb hts iwX5_change_X5 hown hK hP 0 0 rfl rfl rfl 1 (Nat.le_of_ble_eq_true rfl) (hts _ kX5_change_0) (fun _ h9 => h9) rfl dX5_change_6 ?_
  refine lv_aload_n hx hb dX5_change_9 rfl (lv_at hl 0 rfl) ?_
  refine g_get (C := RX5) (T := TX5) (N := 8) hx hb hts iwX5_change_X5 hown hK hP 0 0 rfl rfl rfl 0 (Nat.le_of_ble_eq_true rfl) (hts _ kX5_change_1) (fun _ h9 => h9) rfl dX5_change_10 ?_
  obtain ⟨q2, hq2, hf⟩ := bd_some hf
  refine g_callVv S (As := [.ref (a1 0)]) (gs' := [maW a0 (a1 0) (a2 0) (a3 0) (a4 0) (a7 0 0) (a8 0) (a9 0) (a9 1), stW G a1 v1, stW G a2 q2.2, rdW G a3 v3]) (c_X3_copyFrom l G a2 a1 v2 v1 hq2) (cwV 1 hts gX5_change_X3_copyFrom rfl rfl rfl hd_X3_copyFrom ⟨Nat.le_of_ble_eq_true rfl, Nat.le_of_ble_eq_true rfl⟩) hK hP hD hS hA (is := [2, 1]) rfl rfl 2 rfl rfl rfl rfl hl.1 rfl (Nat.le_of_ble_eq_true rfl) dX5_change_13 ⟨Nat.le_of_ble_eq_true rfl, Nat.le_of_ble_eq_true rfl⟩ rfl (fun H locs hP hD hS => ?_)
  refine lv_aload_n hx hb dX5_change_16 rfl (lv_at hl 0 rfl) ?_
  refine g_get (C := RX5) (T := TX5) (N := 8) hx hb hts iwX5_change_X5 hown hK hP 0 0 rfl rfl rfl 2 (Nat.le_of_ble_eq_true rfl) (hts _ kX5_change_2) (fun _ h9 => h9) rfl dX5_change_17 ?_
  refine lv_aload_n hx hb dX5_change_20 rfl (lv_at hl 0 rfl) ?_
  refine g_get (C := RX5) (T := TX5) (N := 8) hx hb hts iwX5_change_X5 hown hK hP 0 0 rfl rfl rfl 1 (Nat.le_of_ble_eq_true rfl) (hts _ kX5_change_0) (fun _ h9 => h9) rfl dX5_change_21 ?_
  obtain ⟨q3, hq3, hf⟩ := bd_some hf
  refine g_callVi S (As := [.ref (a2 0)]) (gs' := [maW a0 (a1 0) (a2 0) (a3 0) (a4 0) (a7 0 0) (a8 0) (a9 0) (a9 1), stW G a1 v1, stW G a2 q3.2.2, rdW G a3 q3.2.1]) (c_X1_pass l G a3 a2 v3 q2.2 hq3) (cwV 1 hts gX5_change_X1_pass rfl rfl rfl hd_X1_pass ⟨Nat.le_of_ble_eq_true rfl, Nat.le_of_ble_eq_true rfl⟩) hK hP hD hS hA (is := [3, 2]) rfl rfl 3 rfl rfl rfl rfl hl.1 rfl (Nat.le_of_ble_eq_true rfl) dX5_change_24 ⟨Nat.le_of_ble_eq_true rfl, Nat.le_of_ble_eq_true rfl⟩ rfl (fun H locs hP hD hS => ?_)
  refine lv_pop hx hb dX5_change_27 rfl ?_
  refine lv_aload_n hx hb dX5_change_28 rfl (lv_at hl 0 rfl) ?_
  refine g_get (C := RX5) (T := TX5) (N := 8) hx hb hts iwX5_change_X5 hown hK hP 0 0 rfl rfl rfl 1 (Nat.le_of_ble_eq_true rfl) (hts _ kX5_change_0) (fun _ h9 => h9) rfl dX5_change_29 ?_
  refine g_get (C := RX3) (T := TX3) (N := 17) hx hb hts iwX5_change_X3 hown hK hP 2 0 rfl rfl rfl 5 (Nat.le_of_ble_eq_true rfl) (hts _ kX5_change_3) (fun _ h9 => h9) rfl dX5_change_32 ?_
  refine lv_iload_n hx hb dX5_change_35 rfl (lv_at hl 1 rfl) ?_
  obtain ⟨h4, hf⟩ := gi_some hf
  refine g_iald hx hb hK hP 2 1 0 rfl rfl rfl h4 dX5_change_36 ?_
  refine lv_aload_n hx hb dX5_change_37 rfl (lv_at hl 0 rfl) ?_
  refine g_get (C := RX5) (T := TX5) (N := 8) hx hb hts iwX5_change_X5 hown hK hP 0 0 rfl rfl rfl 0 (Nat.le_of_ble_eq_true rfl) (hts _ kX5_change_1) (fun _ h9 => h9) rfl dX5_change_38 ?_
  refine g_get (C := RX3) (T := TX3) (N := 17) hx hb hts iwX5_change_X3 hown hK hP 1 0 rfl rfl rfl 5 (Nat.le_of_ble_eq_true rfl) (hts _ kX5_change_3) (fun _ h9 => h9) rfl dX5_change_41 ?_
  refine lv_iload_n hx hb dX5_change_44 rfl (lv_at hl 1 rfl) ?_
  obtain ⟨h5, hf⟩ := gi_some hf
  refine g_iald hx hb hK hP 1 1 0 rfl rfl rfl h5 dX5_change_45 ?_
  refine lv_isub hx hb dX5_change_46 ?_
  obtain ⟨x6, ex6, hf⟩ := lt_some hf
  refine lv_nmi ex6 ?_
  cases hf
  exact g_iret hx hb hr hlocks hP hS dX5_change_47
theorem kX5_leastBid_0 : Cond.fieldLink RX5 16 "SavingsCircle" "trial" "LSavingsCircle$State;" ∈ wsX5_leastBid := (List.mem_cons_of_mem _ (List.mem_append_left _ (List.mem_append_left _ (List.mem_append_left _ (List.mem_append_left _ (List.mem_append_left _ (List.mem_of_getElem? (i := 0) rfl)))))))
theorem kX5_leastBid_1 : Cond.fieldLink RX5 10 "SavingsCircle" "now" "LSavingsCircle$State;" ∈ wsX5_leastBid := (List.mem_cons_of_mem _ (List.mem_append_left _ (List.mem_append_left _ (List.mem_append_left _ (List.mem_append_left _ (List.mem_append_left _ (List.mem_of_getElem? (i := 1) rfl)))))))
theorem kX5_leastBid_2 : Cond.fieldLink RX5 22 "SavingsCircle" "round" "LSavingsCircle$Round;" ∈ wsX5_leastBid := (List.mem_cons_of_mem _ (List.mem_append_left _ (List.mem_append_left _ (List.mem_append_left _ (List.mem_append_left _ (List.mem_append_left _ (List.mem_of_getElem? (i := 2) rfl)))))))
theorem kX5_leastBid_3 : Cond.fieldLink RX5 132 "SavingsCircle$State" "bid" "[I" ∈ wsX5_leastBid := (List.mem_cons_of_mem _ (List.mem_append_left _ (List.mem_append_left _ (List.mem_append_left _ (List.mem_append_left _ (List.mem_append_left _ (List.mem_of_getElem? (i := 4) rfl)))))))
theorem kX5_leastBid_4 : Cond.constant RX5 78 (-99999) ∈ wsX5_leastBid := (List.mem_cons_of_mem _ (List.mem_append_left _ (List.mem_append_left _ (List.mem_append_left _ (List.mem_append_left _ (List.mem_append_left _ (List.mem_of_getElem? (i := 3) rfl)))))))
theorem iwX5_leastBid_X5 : ∀ w ∈ wsX50, w ∈ wsX5_leastBid := fun w h => (List.mem_cons_of_mem _ (List.mem_append_left _ (List.mem_append_left _ (List.mem_append_left _ (List.mem_append_right _ h)))))
theorem iwX5_leastBid_X3 : ∀ w ∈ wsX30, w ∈ wsX5_leastBid := fun w h => (List.mem_cons_of_mem _ (List.mem_append_left _ (List.mem_append_left _ (List.mem_append_right _ h))))
set_option maxHeartbeats 4000000 in
set_option maxRecDepth 100000 in
theorem w_X5_leastBid_60 {p : Program} {l : Launch} {e : Env} {s : State} {m : MethodId} {args : Array Value} {below : List Frame} {meth : Method} {c : Code} {A : Nat → Prop} {q : Int32 × (StV × RdV)} (S : Ev p s m args meth c cX5_leastBid 4 (some .int) yX5_leastBid.cls wsX5_leastBid) {G : uG} (hK : kK G s) (hA : ∀ q, s.heap.size ≤ q → A q) (_ : uG) (a0 : Nat → Nat) (a1 : Nat → Nat) (a2 : Nat → Nat) (a3 : Nat → Nat) (a4 : Nat → Nat) (a5 : Nat → Nat) (a6 : Nat → Nat) (a7 : Nat → Nat → Nat) (a8 : Nat → Nat) (a9 : Nat → Nat) (a10 : Nat → Nat) (a11 : Nat → Nat) (v1 : StV) (v3 : RdV) (p1 : Int32) (p2 : Int32) : ∀ (n : Nat) (z : (Int32 × StV)) (e1 : ((Int32 × StV) ⊕ (Int32 × (StV × RdV)))) (_ : ∀ r, e1 = Sum.inr r → r = q), lp (b_X5_leastBid_60 v1 v3 p1 p2) n z = some e1 → ∀ (H : Heap) (locs : List Loc) (ls : Array Slot), gP G [maW a0 (a1 0) (a2 0) (a3 0) (a4 0) (a7 0 0) (a8 0) (a9 0) (a9 1), stW G a1 v1, stW G a2 z.2, rdW G a3 v3] H → gD A [maW a0 (a1 0) (a2 0) (a3 0) (a4 0) (a7 0 0) (a8 0) (a9 0) (a9 1), stW G a1 v1, stW G a2 z.2, rdW G a3 v3] → va_S A s.heap H locs → lv_has ls 4 [(0, .ref (a0 0)), (1, .int p1), (2, .int p2), (3, .int z.1)] → (∀ (s1 : (Int32 × StV)), e1 = .inl s1 → ∀ (H : Heap) (locs : List Loc) (ls : Array Slot), gP G [maW a0 (a1 0) (a2 0) (a3 0) (a4 0) (a7 0 0) (a8 0) (a9 0) (a9 1), stW G a1 v1, stW G a2 s1.2, rdW G a3 v3] H → gD A [maW a0 (a1 0) (a2 0) (a3 0) (a4 0) (a7 0 0) (a8 0) (a9 0) (a9 1), stW G a1 v1, stW G a2 s1.2, rdW G a3 v3] → va_S A s.heap H locs → lv_has ls 4 [(0, .ref (a0 0)), (1, .int p1), (2, .int p2), (3, .int s1.1)] → W p l e ({ frames := 3, cells := 0, slots := 0, locals := 69 } : Room) s m args below meth c H locs 0 0 (MQ below (qI G [maW a0 (a1 0) (a2 0) (a3 0) (a4 0) (a7 0 0) (a8 0) (a9 0) (a9 1), stW G a1 v1, stW G a2 q.2.1, rdW G a3 q.2.2] q.1 A) args s 0 0 A) (F0 m 100 ls [])) → W p l e ({ frames := 3, cells := 0, slots := 0, locals := 69 } : Room) s m args below meth c H locs 0 0 (MQ below (qI G [maW a0 (a1 0) (a2 0) (a3 0) (a4 0) (a7 0 0) (a8 0) (a9 0) (a9 1), stW G a1 v1, stW G a2 q.2.1, rdW G a3 q.2.2] q.1 A) args s 0 0 A) (F0 m 60 ls []) := by
  obtain ⟨hx, hb, hml, hown, hts, hr, hlocks⟩ := id S
  intro n
  induction n with
  | zero => intro z e1 hE h; cases h
  | succ n ih =>
    intro z e1 hE hlp H locs ls hP hD hS hl K
    obtain ⟨z9, hf, hz⟩ := lp_s hlp
    unfold b_X5_leastBid_60 at hf
    refine lv_iload_n hx hb dX5_leastBid_60 rfl (lv_at hl 3 rfl) ?_
    refine lv_iload_n hx hb dX5_leastBid_61 rfl (lv_at hl 2 rfl) ?_
    refine lv_iconst (v := (1:Int32)) hx hb dX5_leastBid_62 (by decide) ?_
    refine lv_iadd hx hb dX5_leastBid_63 ?_
    refine lv_icmp_gt (tgt := 100) hx hb dX5_leastBid_64 (by decide) (fun c7 => ?_) (fun c7 => ?_)
    · rw [if_pos c7] at hf
      have he := lz_r hf hz
      exact K _ he.symm H locs ls hP hD hS (lv_sub hl [0, 1, 2, 3] rfl)
    · rw [if_neg c7] at hf
      refine lv_aload_n hx hb dX5_leastBid_67 rfl (lv_at hl 0 rfl) ?_
      refine g_get (C := RX5) (T := TX5) (N := 8) hx hb hts iwX5_leastBid_X5 hown hK hP 0 0 rfl rfl rfl 1 (Nat.le_of_ble_eq_true rfl) (hts _ kX5_leastBid_0) (fun _ h9 => h9) rfl dX5_leastBid_68 ?_
      refine g_get (C := RX3) (T := TX3) (N := 17) hx hb hts iwX5_leastBid_X3 hown hK hP 2 0 rfl rfl rfl 7 (Nat.le_of_ble_eq_true rfl) (hts _ kX5_leastBid_3) (fun _ h9 => h9) rfl dX5_leastBid_71 ?_
      refine lv_iload_n hx hb dX5_leastBid_74 rfl (lv_at hl 1 rfl) ?_
      refine lv_iload_n hx hb dX5_leastBid_75 rfl (lv_at hl 3 rfl) ?_
      obtain ⟨h8, hf⟩ := gi_some hf
      obtain ⟨u9, eu9, hf⟩ := lt_some hf
      refine g_iast (gs' := [maW a0 (a1 0) (a2 0) (a3 0) (a4 0) (a7 0 0) (a8 0) (a9 0) (a9 1), stW G a1 v1, stW G a2 u9, rdW G a3 v3]) hx hb hK hP hD hS 2 3 0 rfl rfl rfl h8 dX5_leastBid_76 (by rw [eu9]; rfl) (fun H locs hP hD hS => ?_)
      refine lv_aload_n hx hb dX5_leastBid_77 rfl (lv_at hl 0 rfl) ?_
      refine g_get (C := RX5) (T := TX5) (N := 8) hx hb hts iwX5_leastBid_X5 hown hK hP 0 0 rfl rfl rfl 2 (Nat.le_of_ble_eq_true rfl) (hts _ kX5_leastBid_2) (fun _ h9 => h9) rfl dX5_leastBid_78 ?_
      refine lv_aload_n hx hb dX5_leastBid_81 rfl (lv_at hl 0 rfl) ?_
      refine g_get (C := RX5) (T := TX5) (N := 8) hx hb hts iwX5_leastBid_X5 hown hK hP 0 0 rfl rfl rfl 1 (Nat.le_of_ble_eq_true rfl) (hts _ kX5_leastBid_0) (fun _ h9 => h9) rfl dX5_leastBid_82 ?_
      obtain ⟨q10, hq10, hf⟩ := bd_some hf
      refine g_callVi S (As := [.ref (a2 0)]) (gs' := [maW a0 (a1 0) (a2 0) (a3 0) (a4 0) (a7 0 0) (a8 0) (a9 0) (a9 1), stW G a1 v1, stW G a2 u9, rdW G a3 v3]) (c_X1_taker l G a3 a2 v3 u9 hq10) (cwV 1 hts gX5_leastBid_X1_taker rfl rfl rfl hd_X1_taker ⟨Nat.le_of_ble_eq_true rfl, Nat.le_of_ble_eq_true rfl⟩) hK hP hD hS hA (is := [3, 2]) rfl rfl 3 rfl rfl rfl rfl hl.1 rfl (Nat.le_of_ble_eq_true rfl) dX5_leastBid_85 ⟨Nat.le_of_ble_eq_true rfl, Nat.le_of_ble_eq_true rfl⟩ rfl (fun H locs hP hD hS => ?_)
      refine lv_iload_n hx hb dX5_leastBid_88 rfl (lv_at hl 1 rfl) ?_
      refine lv_icmp_ne (tgt := 94) hx hb dX5_leastBid_89 (by decide) (fun c11 => ?_) (fun c11 => ?_)
      · rw [if_neg c11] at hf
        obtain ⟨x12, ex12, hf⟩ := lt_some hf
        refine lv_iinc (v := x12) (lv' := [(3, .int x12), (0, .ref (a0 0)), (1, .int p1), (2, .int p2)]) hx hb dX5_leastBid_94 hl (k := 3) rfl (by rw [ex12]; rfl) (by decide) rfl (fun ls hl => ?_)
        refine lv_goto (tgt := 60) hx hb dX5_leastBid_97 (by decide) ?_
        exact ih _ e1 hE (lz_l hf hz) H locs ls hP hD hS (lv_sub hl [1, 2, 3, 0] rfl) K
      · rw [if_pos c11] at hf
        refine lv_iload_n hx hb dX5_leastBid_92 rfl (lv_at hl 3 rfl) ?_
        have he := lz_r hf hz
        have hq := hE _ he.symm
        subst hq
        exact g_iret hx hb hr hlocks hP hS dX5_leastBid_93
set_option maxHeartbeats 4000000 in
set_option maxRecDepth 100000 in
theorem c_X5_leastBid (l : Launch) (G : uG) (a0 : Nat → Nat) (a1 : Nat → Nat) (a2 : Nat → Nat) (a3 : Nat → Nat) (a4 : Nat → Nat) (a5 : Nat → Nat) (a6 : Nat → Nat) (a7 : Nat → Nat → Nat) (a8 : Nat → Nat) (a9 : Nat → Nat) (a10 : Nat → Nat) (a11 : Nat → Nat) (v1 : StV) (v2 : StV) (v3 : RdV) (i1 : Int32) {q : Int32 × (StV × RdV)} (hf : f_X5_leastBid v1 v2 v3 i1 = some q) : mQ l yX5_leastBid wsX5_leastBid ({ frames := 3, cells := 0, slots := 0, locals := 69 } : Room) G [.ref (a0 0), .int i1] [maW a0 (a1 0) (a2 0) (a3 0) (a4 0) (a7 0 0) (a8 0) (a9 0) (a9 1), stW G a1 v1, stW G a2 v2, rdW G a3 v3] [maW a0 (a1 0) (a2 0) (a3 0) (a4 0) (a7 0 0) (a8 0) (a9 0) (a9 1), stW G a1 v1, stW G a2 q.2.1, rdW G a3 q.2.2] (qI G [maW a0 (a1 0) (a2 0) (a3 0) (a4 0) (a7 0 0) (a8 0) (a9 0) (a9 1), stW G a1 v1, stW G a2 q.2.1, rdW G a3 q.2.2] q.1) := by
  unfold f_X5_leastBid at hf
  refine m_of (cc := cX5_leastBid) (maxL := 4) (ret := (some .int)) (by decide) rfl rfl (Nat.le_of_ble_eq_true rfl) ?_
  intro p e s m args below meth c A ls S hK hA hP hD hS hl
  obtain ⟨hx, hb, hml, hown, hts, hr, hlocks⟩ := id S
  have hl : lv_has ls 4 [(0, .ref (a0 0)), (1, .int i1)] := hl
  refine lv_aload_n hx hb dX5_leastBid_0 rfl (lv_at hl 0 rfl) ?_
  refine lv_iload_n hx hb dX5_leastBid_1 rfl (lv_at hl 1 rfl) ?_
  obtain ⟨q1, hq1, hf⟩ := bd_some hf
  refine g_callVv S (As := [.int i1]) (gs' := [maW a0 (a1 0) (a2 0) (a3 0) (a4 0) (a7 0 0) (a8 0) (a9 0) (a9 1), stW G a1 v1, stW G a2 v2, rdW G a3 v3]) (c_X5_requireMember l G a0 a1 a2 a3 a4 a5 a6 a7 a8 a9 a10 a11 v1 i1 hq1) (cwV 1 hts gX5_leastBid_X5_requireMember rfl rfl rfl hd_X5_requireMember ⟨Nat.le_of_ble_eq_true rfl, Nat.le_of_ble_eq_true rfl⟩) hK hP hD hS hA (is := [0, 1]) rfl rfl 0 rfl rfl rfl rfl hl.1 rfl (Nat.le_of_ble_eq_true rfl) dX5_leastBid_2 ⟨Nat.le_of_ble_eq_true rfl, Nat.le_of_ble_eq_true rfl⟩ rfl (fun H locs hP hD hS => ?_)
  refine lv_aload_n hx hb dX5_leastBid_5 rfl (lv_at hl 0 rfl) ?_
  refine g_get (C := RX5) (T := TX5) (N := 8) hx hb hts iwX5_leastBid_X5 hown hK hP 0 0 rfl rfl rfl 1 (Nat.le_of_ble_eq_true rfl) (hts _ kX5_leastBid_0) (fun _ h9 => h9) rfl dX5_leastBid_6 ?_
  refine lv_aload_n hx hb dX5_leastBid_9 rfl (lv_at hl 0 rfl) ?_
  refine g_get (C := RX5) (T := TX5) (N := 8) hx hb hts iwX5_leastBid_X5 hown hK hP 0 0 rfl rfl rfl 0 (Nat.le_of_ble_eq_true rfl) (hts _ kX5_leastBid_1) (fun _ h9 => h9) rfl dX5_leastBid_10 ?_
  obtain ⟨q2, hq2, hf⟩ := bd_some hf
  refine g_callVv S (As := [.ref (a1 0)]) (gs' := [maW a0 (a1 0) (a2 0) (a3 0) (a4 0) (a7 0 0) (a8 0) (a9 0) (a9 1), stW G a1 v1, stW G a2 q2.2, rdW G a3 v3]) (c_X3_copyFrom l G a2 a1 v2 v1 hq2) (cwV 1 hts gX5_leastBid_X3_copyFrom rfl rfl rfl hd_X3_copyFrom ⟨Nat.le_of_ble_eq_true rfl, Nat.le_of_ble_eq_true rfl⟩) hK hP hD hS hA (is := [2, 1]) rfl rfl 2 rfl rfl rfl rfl hl.1 rfl (Nat.le_of_ble_eq_true rfl) dX5_leastBid_13 ⟨Nat.le_of_ble_eq_true rfl, Nat.le_of_ble_eq_true rfl⟩ rfl (fun H locs hP hD hS => ?_)
  refine lv_aload_n hx hb dX5_leastBid_16 rfl (lv_at hl 0 rfl) ?_
  refine g_get (C := RX5) (T := TX5) (N := 8) hx hb hts iwX5_leastBid_X5 hown hK hP 0 0 rfl rfl rfl 2 (Nat.le_of_ble_eq_true rfl) (hts _ kX5_leastBid_2) (fun _ h9 => h9) rfl dX5_leastBid_17 ?_
  refine lv_aload_n hx hb dX5_leastBid_20 rfl (lv_at hl 0 rfl) ?_
  refine g_get (C := RX5) (T := TX5) (N := 8) hx hb hts iwX5_leastBid_X5 hown hK hP 0 0 rfl rfl rfl 1 (Nat.le_of_ble_eq_true rfl) (hts _ kX5_leastBid_0) (fun _ h9 => h9) rfl dX5_leastBid_21 ?_
  obtain ⟨q3, hq3, hf⟩ := bd_some hf
  refine g_callVv S (As := [.ref (a2 0)]) (gs' := [maW a0 (a1 0) (a2 0) (a3 0) (a4 0) (a7 0 0) (a8 0) (a9 0) (a9 1), stW G a1 v1, stW G a2 q3.2.2, rdW G a3 q3.2.1]) (c_X1_payIn l G a3 a2 v3 q2.2 hq3) (cwV 1 hts gX5_leastBid_X1_payIn rfl rfl rfl hd_X1_payIn ⟨Nat.le_of_ble_eq_true rfl, Nat.le_of_ble_eq_true rfl⟩) hK hP hD hS hA (is := [3, 2]) rfl rfl 3 rfl rfl rfl rfl hl.1 rfl (Nat.le_of_ble_eq_true rfl) dX5_leastBid_24 ⟨Nat.le_of_ble_eq_true rfl, Nat.le_of_ble_eq_true rfl⟩ rfl (fun H locs hP hD hS => ?_)
  refine lv_aload_n hx hb dX5_leastBid_27 rfl (lv_at hl 0 rfl) ?_
  refine g_get (C := RX5) (T := TX5) (N := 8) hx hb hts iwX5_leastBid_X5 hown hK hP 0 0 rfl rfl rfl 2 (Nat.le_of_ble_eq_true rfl) (hts _ kX5_leastBid_2) (fun _ h9 => h9) rfl dX5_leastBid_28 ?_
  refine lv_aload_n hx hb dX5_leastBid_31 rfl (lv_at hl 0 rfl) ?_
  refine g_get (C := RX5) (T := TX5) (N := 8) hx hb hts iwX5_leastBid_X5 hown hK hP 0 0 rfl rfl rfl 1 (Nat.le_of_ble_eq_true rfl) (hts _ kX5_leastBid_0) (fun _ h9 => h9) rfl dX5_leastBid_32 ?_
  refine lv_iload_n hx hb dX5_leastBid_35 rfl (lv_at hl 1 rfl) ?_
  obtain ⟨q4, hq4, hf⟩ := bd_some hf
  refine g_callVi S (As := [.ref (a2 0), .int i1]) (gs' := [maW a0 (a1 0) (a2 0) (a3 0) (a4 0) (a7 0 0) (a8 0) (a9 0) (a9 1), stW G a1 v1, stW G a2 q3.2.2, rdW G a3 q3.2.1]) (c_X1_canTake l G a3 a2 q3.2.1 q3.2.2 i1 hq4) (cwV 2 hts gX5_leastBid_X1_canTake rfl rfl rfl hd_X1_canTake ⟨Nat.le_of_ble_eq_true rfl, Nat.le_of_ble_eq_true rfl⟩) hK hP hD hS hA (is := [3, 2]) rfl rfl 3 rfl rfl rfl rfl hl.1 rfl (Nat.le_of_ble_eq_true rfl) dX5_leastBid_36 ⟨Nat.le_of_ble_eq_true rfl, Nat.le_of_ble_eq_true rfl⟩ rfl (fun H locs hP hD hS => ?_)
  refine lv_if_ne (tgt := 45) hx hb dX5_leastBid_39 (by decide) (fun c5 => ?_) (fun c5 => ?_)
  · rw [if_neg c5] at hf
    refine lv_aload_n hx hb dX5_leastBid_45 rfl (lv_at hl 0 rfl) ?_
    refine g_get (C := RX5) (T := TX5) (N := 8) hx hb hts iwX5_leastBid_X5 hown hK hP 0 0 rfl rfl rfl 2 (Nat.le_of_ble_eq_true rfl) (hts _ kX5_leastBid_2) (fun _ h9 => h9) rfl dX5_leastBid_46 ?_
    refine lv_aload_n hx hb dX5_leastBid_49 rfl (lv_at hl 0 rfl) ?_
    refine g_get (C := RX5) (T := TX5) (N := 8) hx hb hts iwX5_leastBid_X5 hown hK hP 0 0 rfl rfl rfl 1 (Nat.le_of_ble_eq_true rfl) (hts _ kX5_leastBid_0) (fun _ h9 => h9) rfl dX5_leastBid_50 ?_
    refine lv_iload_n hx hb dX5_leastBid_53 rfl (lv_at hl 1 rfl) ?_
    obtain ⟨q6, hq6, hf⟩ := bd_some hf
    refine g_callVi S (As := [.ref (a2 0), .int i1]) (gs' := [maW a0 (a1 0) (a2 0) (a3 0) (a4 0) (a7 0 0) (a8 0) (a9 0) (a9 1), stW G a1 v1, stW G a2 q3.2.2, rdW G a3 q3.2.1]) (c_X1_greatestBidBeside l G a3 a2 q3.2.1 q3.2.2 i1 hq6) (cwV 2 hts gX5_leastBid_X1_greatestBidBeside rfl rfl rfl hd_X1_greatestBidBeside ⟨Nat.le_of_ble_eq_true rfl, Nat.le_of_ble_eq_true rfl⟩) hK hP hD hS hA (is := [3, 2]) rfl rfl 3 rfl rfl rfl rfl hl.1 rfl (Nat.le_of_ble_eq_true rfl) dX5_leastBid_54 ⟨Nat.le_of_ble_eq_true rfl, Nat.le_of_ble_eq_true rfl⟩ rfl (fun H locs hP hD hS => ?_)
    refine lv_istore_n (lv' := [(2, .int q6.1), (0, .ref (a0 0)), (1, .int i1)]) hx hb dX5_leastBid_57 rfl hl (by decide) rfl (fun ls hl => ?_)
    refine lv_iload_n hx hb dX5_leastBid_58 rfl (lv_at hl 0 rfl) ?_
    refine lv_istore_n (lv' := [(3, .int q6.1), (2, .int q6.1), (0, .ref (a0 0)), (1, .int i1)]) hx hb dX5_leastBid_59 rfl hl (by decide) rfl (fun ls hl => ?_)
    obtain ⟨e13, he13, hf⟩ := bd_some hf
    refine w_X5_leastBid_60 S hK hA G a0 a1 a2 a3 a4 a5 a6 a7 a8 a9 a10 a11 v1 q3.2.1 i1 q6.1 FU _ e13 (fun r hr9 => by subst hr9; exact (Option.some.inj hf)) he13 _ _ _ hP hD hS (lv_sub hl [2, 3, 1, 0] rfl) (fun s14 hs9 H locs ls hP hD hS hl => ?_)
    subst hs9
    have hf := el_h hf
    refine lv_ldc (v := (-99999:Int32)) hx hb hown (hts _ kX5_leastBid_4) dX5_leastBid_100 ?_
    cases hf
    exact g_iret hx hb hr hlocks hP hS dX5_leastBid_102
  · rw [if_pos c5] at hf
    refine lv_ldc (v := (-99999:Int32)) hx hb hown (hts _ kX5_leastBid_4) dX5_leastBid_42 ?_
    cases hf
    exact g_iret hx hb hr hlocks hP hS dX5_leastBid_44
theorem kX5_when_0 : Cond.fieldLink RX5 16 "SavingsCircle" "trial" "LSavingsCircle$State;" ∈ wsX5_when := (List.mem_cons_of_mem _ (List.mem_append_left _ (List.mem_append_left _ (List.mem_append_left _ (List.mem_append_left _ (List.mem_append_left _ (List.mem_of_getElem? (i := 0) rfl)))))))
theorem kX5_when_1 : Cond.fieldLink RX5 10 "SavingsCircle" "now" "LSavingsCircle$State;" ∈ wsX5_when := (List.mem_cons_of_mem _ (List.mem_append_left _ (List.mem_append_left _ (List.mem_append_left _ (List.mem_append_left _ (List.mem_append_left _ (List.mem_of_getElem? (i := 1) rfl)))))))
theorem kX5_when_2 : Cond.fieldLink RX5 95 "SavingsCircle$State" "month" "I" ∈ wsX5_when := (List.mem_cons_of_mem _ (List.mem_append_left _ (List.mem_append_left _ (List.mem_append_left _ (List.mem_append_left _ (List.mem_append_left _ (List.mem_of_getElem? (i := 2) rfl)))))))
theorem kX5_when_3 : Cond.fieldLink RX5 22 "SavingsCircle" "round" "LSavingsCircle$Round;" ∈ wsX5_when := (List.mem_cons_of_mem _ (List.mem_append_left _ (List.mem_append_left _ (List.mem_append_left _ (List.mem_append_left _ (List.mem_append_left _ (List.mem_of_getElem? (i := 3) rfl)))))))
theorem kX5_when_4 : Cond.constant RX5 78 (-99999) ∈ wsX5_when := (List.mem_cons_of_mem _ (List.mem_append_left _ (List.mem_append_left _ (List.mem_append_left _ (List.mem_append_left _ (List.mem_append_left _ (List.mem_of_getElem? (i := 4) rfl)))))))
theorem iwX5_when_X5 : ∀ w ∈ wsX50, w ∈ wsX5_when := fun w h => (List.mem_cons_of_mem _ (List.mem_append_left _ (List.mem_append_left _ (List.mem_append_left _ (List.mem_append_right _ h)))))
theorem iwX5_when_X3 : ∀ w ∈ wsX30, w ∈ wsX5_when := fun w h => (List.mem_cons_of_mem _ (List.mem_append_left _ (List.mem_append_left _ (List.mem_append_right _ h))))
set_option maxHeartbeats 4000000 in
set_option maxRecDepth 100000 in
theorem w_X5_when_18 {p : Program} {l : Launch} {e : Env} {s : State} {m : MethodId} {args : Array Value} {below : List Frame} {meth : Method} {c : Code} {A : Nat → Prop} {q : Int32 × (StV × RdV)} (S : Ev p s m args meth c cX5_when 4 (some .int) yX5_when.cls wsX5_when) {G : uG} (hK : kK G s) (hA : ∀ q, s.heap.size ≤ q → A q) (_ : uG) (a0 : Nat → Nat) (a1 : Nat → Nat) (a2 : Nat → Nat) (a3 : Nat → Nat) (a4 : Nat → Nat) (a5 : Nat → Nat) (a6 : Nat → Nat) (a7 : Nat → Nat → Nat) (a8 : Nat → Nat) (a9 : Nat → Nat) (a10 : Nat → Nat) (a11 : Nat → Nat) (v1 : StV) (p1 : Int32) : ∀ (n : Nat) (z : (Int32 × StV × RdV)) (e1 : ((Int32 × StV × RdV) ⊕ (Int32 × (StV × RdV)))) (_ : ∀ r, e1 = Sum.inr r → r = q), lp (b_X5_when_18 v1 p1) n z = some e1 → ∀ (H : Heap) (locs : List Loc) (ls : Array Slot), gP G [maW a0 (a1 0) (a2 0) (a3 0) (a4 0) (a7 0 0) (a8 0) (a9 0) (a9 1), stW G a1 v1, stW G a2 z.2.1, rdW G a3 z.2.2] H → gD A [maW a0 (a1 0) (a2 0) (a3 0) (a4 0) (a7 0 0) (a8 0) (a9 0) (a9 1), stW G a1 v1, stW G a2 z.2.1, rdW G a3 z.2.2] → va_S A s.heap H locs → lv_has ls 4 [(0, .ref (a0 0)), (1, .int p1), (2, .int z.1)] → (∀ (s1 : (Int32 × StV × RdV)), e1 = .inl s1 → ∀ (H : Heap) (locs : List Loc) (ls : Array Slot), gP G [maW a0 (a1 0) (a2 0) (a3 0) (a4 0) (a7 0 0) (a8 0) (a9 0) (a9 1), stW G a1 v1, stW G a2 s1.2.1, rdW G a3 s1.2.2] H → gD A [maW a0 (a1 0) (a2 0) (a3 0) (a4 0) (a7 0 0) (a8 0) (a9 0) (a9 1), stW G a1 v1, stW G a2 s1.2.1, rdW G a3 s1.2.2] → va_S A s.heap H locs → lv_has ls 4 [(0, .ref (a0 0)), (1, .int p1), (2, .int s1.1)] → W p l e ({ frames := 4, cells := 0, slots := 0, locals := 93 } : Room) s m args below meth c H locs 0 0 (MQ below (qI G [maW a0 (a1 0) (a2 0) (a3 0) (a4 0) (a7 0 0) (a8 0) (a9 0) (a9 1), stW G a1 v1, stW G a2 q.2.1, rdW G a3 q.2.2] q.1 A) args s 0 0 A) (F0 m 65 ls [])) → W p l e ({ frames := 4, cells := 0, slots := 0, locals := 93 } : Room) s m args below meth c H locs 0 0 (MQ below (qI G [maW a0 (a1 0) (a2 0) (a3 0) (a4 0) (a7 0 0) (a8 0) (a9 0) (a9 1), stW G a1 v1, stW G a2 q.2.1, rdW G a3 q.2.2] q.1 A) args s 0 0 A) (F0 m 18 ls []) := by
  obtain ⟨hx, hb, hml, hown, hts, hr, hlocks⟩ := id S
  intro n
  induction n with
  | zero => intro z e1 hE h; cases h
  | succ n ih =>
    intro z e1 hE hlp H locs ls hP hD hS hl K
    obtain ⟨z9, hf, hz⟩ := lp_s hlp
    unfold b_X5_when_18 at hf
    refine lv_iload_n hx hb dX5_when_18 rfl (lv_at hl 2 rfl) ?_
    refine lv_bipush (v := (20:Int32)) hx hb dX5_when_19 (by decide) ?_
    refine lv_icmp_ge (tgt := 65) hx hb dX5_when_21 (by decide) (fun c3 => ?_) (fun c3 => ?_)
    · rw [if_pos c3] at hf
      have he := lz_r hf hz
      exact K _ he.symm H locs ls hP hD hS (lv_sub hl [0, 1, 2] rfl)
    · rw [if_neg c3] at hf
      refine lv_aload_n hx hb dX5_when_24 rfl (lv_at hl 0 rfl) ?_
      refine g_get (C := RX5) (T := TX5) (N := 8) hx hb hts iwX5_when_X5 hown hK hP 0 0 rfl rfl rfl 1 (Nat.le_of_ble_eq_true rfl) (hts _ kX5_when_0) (fun _ h9 => h9) rfl dX5_when_25 ?_
      obtain ⟨q4, hq4, hf⟩ := bd_some hf
      refine g_callVi S (As := []) (gs' := [maW a0 (a1 0) (a2 0) (a3 0) (a4 0) (a7 0 0) (a8 0) (a9 0) (a9 1), stW G a1 v1, stW G a2 z.2.1, rdW G a3 z.2.2]) (c_X3_mayPass l G a2 z.2.1 hq4) (cwV 0 hts gX5_when_X3_mayPass rfl rfl rfl hd_X3_mayPass ⟨Nat.le_of_ble_eq_true rfl, Nat.le_of_ble_eq_true rfl⟩) hK hP hD hS hA (is := [2]) rfl rfl 2 rfl rfl rfl rfl hl.1 rfl (Nat.le_of_ble_eq_true rfl) dX5_when_28 ⟨Nat.le_of_ble_eq_true rfl, Nat.le_of_ble_eq_true rfl⟩ rfl (fun H locs hP hD hS => ?_)
      refine lv_if_eq (tgt := 65) hx hb dX5_when_31 (by decide) (fun c5 => ?_) (fun c5 => ?_)
      · rw [if_pos c5] at hf
        have he := lz_r hf hz
        exact K _ he.symm H locs ls hP hD hS (lv_sub hl [0, 1, 2] rfl)
      · rw [if_neg c5] at hf
        refine lv_aload_n hx hb dX5_when_34 rfl (lv_at hl 0 rfl) ?_
        refine g_get (C := RX5) (T := TX5) (N := 8) hx hb hts iwX5_when_X5 hown hK hP 0 0 rfl rfl rfl 1 (Nat.le_of_ble_eq_true rfl) (hts _ kX5_when_0) (fun _ h9 => h9) rfl dX5_when_35 ?_
        refine g_get (C := RX3) (T := TX3) (N := 17) hx hb hts iwX5_when_X3 hown hK hP 2 0 rfl rfl rfl 1 (Nat.le_of_ble_eq_true rfl) (hts _ kX5_when_2) (fun _ h9 => h9) rfl dX5_when_38 ?_
        obtain ⟨x6, ex6, hf⟩ := lt_some hf
        refine lv_nmi ex6 ?_
        refine lv_istore_n (lv' := [(3, .int x6), (0, .ref (a0 0)), (1, .int p1), (2, .int z.1)]) hx hb dX5_when_41 rfl hl (by decide) rfl (fun ls hl => ?_)
        refine lv_aload_n hx hb dX5_when_42 rfl (lv_at hl 1 rfl) ?_
        refine g_get (C := RX5) (T := TX5) (N := 8) hx hb hts iwX5_when_X5 hown hK hP 0 0 rfl rfl rfl 2 (Nat.le_of_ble_eq_true rfl) (hts _ kX5_when_3) (fun _ h9 => h9) rfl dX5_when_43 ?_
        refine lv_aload_n hx hb dX5_when_46 rfl (lv_at hl 1 rfl) ?_
        refine g_get (C := RX5) (T := TX5) (N := 8) hx hb hts iwX5_when_X5 hown hK hP 0 0 rfl rfl rfl 1 (Nat.le_of_ble_eq_true rfl) (hts _ kX5_when_0) (fun _ h9 => h9) rfl dX5_when_47 ?_
        obtain ⟨q7, hq7, hf⟩ := bd_some hf
        refine g_callVi S (As := [.ref (a2 0)]) (gs' := [maW a0 (a1 0) (a2 0) (a3 0) (a4 0) (a7 0 0) (a8 0) (a9 0) (a9 1), stW G a1 v1, stW G a2 q7.2.2, rdW G a3 q7.2.1]) (c_X1_pass l G a3 a2 z.2.2 z.2.1 hq7) (cwV 1 hts gX5_when_X1_pass rfl rfl rfl hd_X1_pass ⟨Nat.le_of_ble_eq_true rfl, Nat.le_of_ble_eq_true rfl⟩) hK hP hD hS hA (is := [3, 2]) rfl rfl 3 rfl rfl rfl rfl hl.1 rfl (Nat.le_of_ble_eq_true rfl) dX5_when_50 ⟨Nat.le_of_ble_eq_true rfl, Nat.le_of_ble_eq_true rfl⟩ rfl (fun H locs hP hD hS => ?_)
        refine lv_iload_n hx hb dX5_when_53 rfl (lv_at hl 2 rfl) ?_
        refine lv_icmp_ne (tgt := 59) hx hb dX5_when_54 (by decide) (fun c8 => ?_) (fun c8 => ?_)
        · rw [if_neg c8] at hf
          obtain ⟨x9, ex9, hf⟩ := lt_some hf
          refine lv_iinc (v := x9) (lv' := [(2, .int x9), (3, .int x6), (0, .ref (a0 0)), (1, .int p1)]) hx hb dX5_when_59 hl (k := 3) rfl (by rw [ex9]; rfl) (by decide) rfl (fun ls hl => ?_)
          refine lv_goto (tgt := 18) hx hb dX5_when_62 (by decide) ?_
          exact ih _ e1 hE (lz_l hf hz) H locs ls hP hD hS (lv_sub hl [2, 3, 0] rfl) K
        · rw [if_pos c8] at hf
          refine lv_iload_n hx hb dX5_when_57 rfl (lv_at hl 0 rfl) ?_
          have he := lz_r hf hz
          have hq := hE _ he.symm
          subst hq
          exact g_iret hx hb hr hlocks hP hS dX5_when_58
set_option maxHeartbeats 4000000 in
set_option maxRecDepth 100000 in
theorem c_X5_when (l : Launch) (G : uG) (a0 : Nat → Nat) (a1 : Nat → Nat) (a2 : Nat → Nat) (a3 : Nat → Nat) (a4 : Nat → Nat) (a5 : Nat → Nat) (a6 : Nat → Nat) (a7 : Nat → Nat → Nat) (a8 : Nat → Nat) (a9 : Nat → Nat) (a10 : Nat → Nat) (a11 : Nat → Nat) (v1 : StV) (v2 : StV) (v3 : RdV) (i1 : Int32) {q : Int32 × (StV × RdV)} (hf : f_X5_when v1 v2 v3 i1 = some q) : mQ l yX5_when wsX5_when ({ frames := 4, cells := 0, slots := 0, locals := 93 } : Room) G [.ref (a0 0), .int i1] [maW a0 (a1 0) (a2 0) (a3 0) (a4 0) (a7 0 0) (a8 0) (a9 0) (a9 1), stW G a1 v1, stW G a2 v2, rdW G a3 v3] [maW a0 (a1 0) (a2 0) (a3 0) (a4 0) (a7 0 0) (a8 0) (a9 0) (a9 1), stW G a1 v1, stW G a2 q.2.1, rdW G a3 q.2.2] (qI G [maW a0 (a1 0) (a2 0) (a3 0) (a4 0) (a7 0 0) (a8 0) (a9 0) (a9 1), stW G a1 v1, stW G a2 q.2.1, rdW G a3 q.2.2] q.1) := by
  unfold f_X5_when at hf
  refine m_of (cc := cX5_when) (maxL := 4) (ret := (some .int)) (by decide) rfl rfl (Nat.le_of_ble_eq_true rfl) ?_
  intro p e s m args below meth c A ls S hK hA hP hD hS hl
  obtain ⟨hx, hb, hml, hown, hts, hr, hlocks⟩ := id S
  have hl : lv_has ls 4 [(0, .ref (a0 0)), (1, .int i1)] := hl
  refine lv_aload_n hx hb dX5_when_0 rfl (lv_at hl 0 rfl) ?_
  refine lv_iload_n hx hb dX5_when_1 rfl (lv_at hl 1 rfl) ?_
  obtain ⟨q1, hq1, hf⟩ := bd_some hf
  refine g_callVv S (As := [.int i1]) (gs' := [maW a0 (a1 0) (a2 0) (a3 0) (a4 0) (a7 0 0) (a8 0) (a9 0) (a9 1), stW G a1 v1, stW G a2 v2, rdW G a3 v3]) (c_X5_requireMember l G a0 a1 a2 a3 a4 a5 a6 a7 a8 a9 a10 a11 v1 i1 hq1) (cwV 1 hts gX5_when_X5_requireMember rfl rfl rfl hd_X5_requireMember ⟨Nat.le_of_ble_eq_true rfl, Nat.le_of_ble_eq_true rfl⟩) hK hP hD hS hA (is := [0, 1]) rfl rfl 0 rfl rfl rfl rfl hl.1 rfl (Nat.le_of_ble_eq_true rfl) dX5_when_2 ⟨Nat.le_of_ble_eq_true rfl, Nat.le_of_ble_eq_true rfl⟩ rfl (fun H locs hP hD hS => ?_)
  refine lv_aload_n hx hb dX5_when_5 rfl (lv_at hl 0 rfl) ?_
  refine g_get (C := RX5) (T := TX5) (N := 8) hx hb hts iwX5_when_X5 hown hK hP 0 0 rfl rfl rfl 1 (Nat.le_of_ble_eq_true rfl) (hts _ kX5_when_0) (fun _ h9 => h9) rfl dX5_when_6 ?_
  refine lv_aload_n hx hb dX5_when_9 rfl (lv_at hl 0 rfl) ?_
  refine g_get (C := RX5) (T := TX5) (N := 8) hx hb hts iwX5_when_X5 hown hK hP 0 0 rfl rfl rfl 0 (Nat.le_of_ble_eq_true rfl) (hts _ kX5_when_1) (fun _ h9 => h9) rfl dX5_when_10 ?_
  obtain ⟨q2, hq2, hf⟩ := bd_some hf
  refine g_callVv S (As := [.ref (a1 0)]) (gs' := [maW a0 (a1 0) (a2 0) (a3 0) (a4 0) (a7 0 0) (a8 0) (a9 0) (a9 1), stW G a1 v1, stW G a2 q2.2, rdW G a3 v3]) (c_X3_copyFrom l G a2 a1 v2 v1 hq2) (cwV 1 hts gX5_when_X3_copyFrom rfl rfl rfl hd_X3_copyFrom ⟨Nat.le_of_ble_eq_true rfl, Nat.le_of_ble_eq_true rfl⟩) hK hP hD hS hA (is := [2, 1]) rfl rfl 2 rfl rfl rfl rfl hl.1 rfl (Nat.le_of_ble_eq_true rfl) dX5_when_13 ⟨Nat.le_of_ble_eq_true rfl, Nat.le_of_ble_eq_true rfl⟩ rfl (fun H locs hP hD hS => ?_)
  refine lv_iconst (v := (0:Int32)) hx hb dX5_when_16 (by decide) ?_
  refine lv_istore_n (lv' := [(2, .int (0:Int32)), (0, .ref (a0 0)), (1, .int i1)]) hx hb dX5_when_17 rfl hl (by decide) rfl (fun ls hl => ?_)
  obtain ⟨e10, he10, hf⟩ := bd_some hf
  refine w_X5_when_18 S hK hA G a0 a1 a2 a3 a4 a5 a6 a7 a8 a9 a10 a11 v1 i1 FU _ e10 (fun r hr9 => by subst hr9; exact (Option.some.inj hf)) he10 _ _ _ hP hD hS (lv_sub hl [1, 2, 0] rfl) (fun s11 hs9 H locs ls hP hD hS hl => ?_)
  subst hs9
  have hf := el_h hf
  refine lv_ldc (v := (-99999:Int32)) hx hb hown (hts _ kX5_when_4) dX5_when_65 ?_
  cases hf
  exact g_iret hx hb hr hlocks hP hS dX5_when_67
theorem kX5_inTheEnd_0 : Cond.fieldLink RX5 16 "SavingsCircle" "trial" "LSavingsCircle$State;" ∈ wsX5_inTheEnd := (List.mem_cons_of_mem _ (List.mem_append_left _ (List.mem_append_left _ (List.mem_append_left _ (List.mem_append_left _ (List.mem_append_left _ (List.mem_of_getElem? (i := 0) rfl)))))))
theorem kX5_inTheEnd_1 : Cond.fieldLink RX5 10 "SavingsCircle" "now" "LSavingsCircle$State;" ∈ wsX5_inTheEnd := (List.mem_cons_of_mem _ (List.mem_append_left _ (List.mem_append_left _ (List.mem_append_left _ (List.mem_append_left _ (List.mem_append_left _ (List.mem_of_getElem? (i := 1) rfl)))))))
theorem kX5_inTheEnd_2 : Cond.fieldLink RX5 22 "SavingsCircle" "round" "LSavingsCircle$Round;" ∈ wsX5_inTheEnd := (List.mem_cons_of_mem _ (List.mem_append_left _ (List.mem_append_left _ (List.mem_append_left _ (List.mem_append_left _ (List.mem_append_left _ (List.mem_of_getElem? (i := 2) rfl)))))))
theorem kX5_inTheEnd_3 : Cond.fieldLink RX5 125 "SavingsCircle$State" "purse" "[I" ∈ wsX5_inTheEnd := (List.mem_cons_of_mem _ (List.mem_append_left _ (List.mem_append_left _ (List.mem_append_left _ (List.mem_append_left _ (List.mem_append_left _ (List.mem_of_getElem? (i := 3) rfl)))))))
theorem iwX5_inTheEnd_X5 : ∀ w ∈ wsX50, w ∈ wsX5_inTheEnd := fun w h => (List.mem_cons_of_mem _ (List.mem_append_left _ (List.mem_append_left _ (List.mem_append_left _ (List.mem_append_right _ h)))))
theorem iwX5_inTheEnd_X3 : ∀ w ∈ wsX30, w ∈ wsX5_inTheEnd := fun w h => (List.mem_cons_of_mem _ (List.mem_append_left _ (List.mem_append_left _ (List.mem_append_right _ h))))
set_option maxHeartbeats 4000000 in
set_option maxRecDepth 100000 in
theorem w_X5_inTheEnd_18 {p : Program} {l : Launch} {e : Env} {s : State} {m : MethodId} {args : Array Value} {below : List Frame} {meth : Method} {c : Code} {A : Nat → Prop} {Q : State → Prop} (S : Ev p s m args meth c cX5_inTheEnd 3 (some .int) yX5_inTheEnd.cls wsX5_inTheEnd) {G : uG} (hK : kK G s) (hA : ∀ q, s.heap.size ≤ q → A q) (_ : uG) (a0 : Nat → Nat) (a1 : Nat → Nat) (a2 : Nat → Nat) (a3 : Nat → Nat) (a4 : Nat → Nat) (a5 : Nat → Nat) (a6 : Nat → Nat) (a7 : Nat → Nat → Nat) (a8 : Nat → Nat) (a9 : Nat → Nat) (a10 : Nat → Nat) (a11 : Nat → Nat) (v1 : StV) (p1 : Int32) : ∀ (n : Nat) (z : (Int32 × StV × RdV)) (e1 : (Int32 × StV × RdV)), lp (b_X5_inTheEnd_18 v1 p1) n z = some e1 → ∀ (H : Heap) (locs : List Loc) (ls : Array Slot), gP G [maW a0 (a1 0) (a2 0) (a3 0) (a4 0) (a7 0 0) (a8 0) (a9 0) (a9 1), stW G a1 v1, stW G a2 z.2.1, rdW G a3 z.2.2] H → gD A [maW a0 (a1 0) (a2 0) (a3 0) (a4 0) (a7 0 0) (a8 0) (a9 0) (a9 1), stW G a1 v1, stW G a2 z.2.1, rdW G a3 z.2.2] → va_S A s.heap H locs → lv_has ls 3 [(0, .ref (a0 0)), (1, .int p1), (2, .int z.1)] → (∀ (H : Heap) (locs : List Loc) (ls : Array Slot), gP G [maW a0 (a1 0) (a2 0) (a3 0) (a4 0) (a7 0 0) (a8 0) (a9 0) (a9 1), stW G a1 v1, stW G a2 e1.2.1, rdW G a3 e1.2.2] H → gD A [maW a0 (a1 0) (a2 0) (a3 0) (a4 0) (a7 0 0) (a8 0) (a9 0) (a9 1), stW G a1 v1, stW G a2 e1.2.1, rdW G a3 e1.2.2] → va_S A s.heap H locs → lv_has ls 3 [(0, .ref (a0 0)), (1, .int p1), (2, .int e1.1)] → W p l e ({ frames := 4, cells := 0, slots := 0, locals := 93 } : Room) s m args below meth c H locs 0 0 Q (F0 m 62 ls [])) → W p l e ({ frames := 4, cells := 0, slots := 0, locals := 93 } : Room) s m args below meth c H locs 0 0 Q (F0 m 18 ls []) := by
  obtain ⟨hx, hb, hml, hown, hts, hr, hlocks⟩ := id S
  intro n
  induction n with
  | zero => intro z e1 h; cases h
  | succ n ih =>
    intro z e1 hlp H locs ls hP hD hS hl K
    obtain ⟨z9, hf, hz⟩ := lp_s hlp
    unfold b_X5_inTheEnd_18 at hf
    refine lv_iload_n hx hb dX5_inTheEnd_18 rfl (lv_at hl 2 rfl) ?_
    refine lv_bipush (v := (20:Int32)) hx hb dX5_inTheEnd_19 (by decide) ?_
    refine lv_icmp_ge (tgt := 62) hx hb dX5_inTheEnd_21 (by decide) (fun c3 => ?_) (fun c3 => ?_)
    · rw [if_pos c3] at hf
      have he := lz_r hf hz
      subst he
      exact K H locs ls hP hD hS (lv_sub hl [0, 1, 2] rfl)
    · rw [if_neg c3] at hf
      refine lv_aload_n hx hb dX5_inTheEnd_24 rfl (lv_at hl 0 rfl) ?_
      refine g_get (C := RX5) (T := TX5) (N := 8) hx hb hts iwX5_inTheEnd_X5 hown hK hP 0 0 rfl rfl rfl 1 (Nat.le_of_ble_eq_true rfl) (hts _ kX5_inTheEnd_0) (fun _ h9 => h9) rfl dX5_inTheEnd_25 ?_
      obtain ⟨q4, hq4, hf⟩ := bd_some hf
      refine g_callVi S (As := []) (gs' := [maW a0 (a1 0) (a2 0) (a3 0) (a4 0) (a7 0 0) (a8 0) (a9 0) (a9 1), stW G a1 v1, stW G a2 z.2.1, rdW G a3 z.2.2]) (c_X3_countWaiting l G a2 z.2.1 hq4) (cwV 0 hts gX5_inTheEnd_X3_countWaiting rfl rfl rfl hd_X3_countWaiting ⟨Nat.le_of_ble_eq_true rfl, Nat.le_of_ble_eq_true rfl⟩) hK hP hD hS hA (is := [2]) rfl rfl 2 rfl rfl rfl rfl hl.1 rfl (Nat.le_of_ble_eq_true rfl) dX5_inTheEnd_28 ⟨Nat.le_of_ble_eq_true rfl, Nat.le_of_ble_eq_true rfl⟩ rfl (fun H locs hP hD hS => ?_)
      refine lv_if_le (tgt := 62) hx hb dX5_inTheEnd_31 (by decide) (fun c5 => ?_) (fun c5 => ?_)
      · rw [if_pos c5] at hf
        have he := lz_r hf hz
        subst he
        exact K H locs ls hP hD hS (lv_sub hl [0, 1, 2] rfl)
      · rw [if_neg c5] at hf
        refine lv_aload_n hx hb dX5_inTheEnd_34 rfl (lv_at hl 0 rfl) ?_
        refine g_get (C := RX5) (T := TX5) (N := 8) hx hb hts iwX5_inTheEnd_X5 hown hK hP 0 0 rfl rfl rfl 1 (Nat.le_of_ble_eq_true rfl) (hts _ kX5_inTheEnd_0) (fun _ h9 => h9) rfl dX5_inTheEnd_35 ?_
        obtain ⟨q6, hq6, hf⟩ := bd_some hf
        refine g_callVi S (As := []) (gs' := [maW a0 (a1 0) (a2 0) (a3 0) (a4 0) (a7 0 0) (a8 0) (a9 0) (a9 1), stW G a1 v1, stW G a2 z.2.1, rdW G a3 z.2.2]) (c_X3_mayPass l G a2 z.2.1 hq6) (cwV 0 hts gX5_inTheEnd_X3_mayPass rfl rfl rfl hd_X3_mayPass ⟨Nat.le_of_ble_eq_true rfl, Nat.le_of_ble_eq_true rfl⟩) hK hP hD hS hA (is := [2]) rfl rfl 2 rfl rfl rfl rfl hl.1 rfl (Nat.le_of_ble_eq_true rfl) dX5_inTheEnd_38 ⟨Nat.le_of_ble_eq_true rfl, Nat.le_of_ble_eq_true rfl⟩ rfl (fun H locs hP hD hS => ?_)
        refine lv_if_eq (tgt := 62) hx hb dX5_inTheEnd_41 (by decide) (fun c7 => ?_) (fun c7 => ?_)
        · rw [if_pos c7] at hf
          have he := lz_r hf hz
          subst he
          exact K H locs ls hP hD hS (lv_sub hl [0, 1, 2] rfl)
        · rw [if_neg c7] at hf
          refine lv_aload_n hx hb dX5_inTheEnd_44 rfl (lv_at hl 0 rfl) ?_
          refine g_get (C := RX5) (T := TX5) (N := 8) hx hb hts iwX5_inTheEnd_X5 hown hK hP 0 0 rfl rfl rfl 2 (Nat.le_of_ble_eq_true rfl) (hts _ kX5_inTheEnd_2) (fun _ h9 => h9) rfl dX5_inTheEnd_45 ?_
          refine lv_aload_n hx hb dX5_inTheEnd_48 rfl (lv_at hl 0 rfl) ?_
          refine g_get (C := RX5) (T := TX5) (N := 8) hx hb hts iwX5_inTheEnd_X5 hown hK hP 0 0 rfl rfl rfl 1 (Nat.le_of_ble_eq_true rfl) (hts _ kX5_inTheEnd_0) (fun _ h9 => h9) rfl dX5_inTheEnd_49 ?_
          obtain ⟨q8, hq8, hf⟩ := bd_some hf
          refine g_callVi S (As := [.ref (a2 0)]) (gs' := [maW a0 (a1 0) (a2 0) (a3 0) (a4 0) (a7 0 0) (a8 0) (a9 0) (a9 1), stW G a1 v1, stW G a2 q8.2.2, rdW G a3 q8.2.1]) (c_X1_pass l G a3 a2 z.2.2 z.2.1 hq8) (cwV 1 hts gX5_inTheEnd_X1_pass rfl rfl rfl hd_X1_pass ⟨Nat.le_of_ble_eq_true rfl, Nat.le_of_ble_eq_true rfl⟩) hK hP hD hS hA (is := [3, 2]) rfl rfl 3 rfl rfl rfl rfl hl.1 rfl (Nat.le_of_ble_eq_true rfl) dX5_inTheEnd_52 ⟨Nat.le_of_ble_eq_true rfl, Nat.le_of_ble_eq_true rfl⟩ rfl (fun H locs hP hD hS => ?_)
          refine lv_pop hx hb dX5_inTheEnd_55 rfl ?_
          obtain ⟨x9, ex9, hf⟩ := lt_some hf
          refine lv_iinc (v := x9) (lv' := [(2, .int x9), (0, .ref (a0 0)), (1, .int p1)]) hx hb dX5_inTheEnd_56 hl (k := 2) rfl (by rw [ex9]; rfl) (by decide) rfl (fun ls hl => ?_)
          refine lv_goto (tgt := 18) hx hb dX5_inTheEnd_59 (by decide) ?_
          exact ih _ e1 (lz_l hf hz) H locs ls hP hD hS (lv_sub hl [1, 2, 0] rfl) K
set_option maxHeartbeats 4000000 in
set_option maxRecDepth 100000 in
theorem c_X5_inTheEnd (l : Launch) (G : uG) (a0 : Nat → Nat) (a1 : Nat → Nat) (a2 : Nat → Nat) (a3 : Nat → Nat) (a4 : Nat → Nat) (a5 : Nat → Nat) (a6 : Nat → Nat) (a7 : Nat → Nat → Nat) (a8 : Nat → Nat) (a9 : Nat → Nat) (a10 : Nat → Nat) (a11 : Nat → Nat) (v1 : StV) (v2 : StV) (v3 : RdV) (i1 : Int32) {q : Int32 × (StV × RdV)} (hf : f_X5_inTheEnd v1 v2 v3 i1 = some q) : mQ l yX5_inTheEnd wsX5_inTheEnd ({ frames := 4, cells := 0, slots := 0, locals := 93 } : Room) G [.ref (a0 0), .int i1] [maW a0 (a1 0) (a2 0) (a3 0) (a4 0) (a7 0 0) (a8 0) (a9 0) (a9 1), stW G a1 v1, stW G a2 v2, rdW G a3 v3] [maW a0 (a1 0) (a2 0) (a3 0) (a4 0) (a7 0 0) (a8 0) (a9 0) (a9 1), stW G a1 v1, stW G a2 q.2.1, rdW G a3 q.2.2] (qI G [maW a0 (a1 0) (a2 0) (a3 0) (a4 0) (a7 0 0) (a8 0) (a9 0) (a9 1), stW G a1 v1, stW G a2 q.2.1, rdW G a3 q.2.2] q.1) := by
  unfold f_X5_inTheEnd at hf
  refine m_of (cc := cX5_inTheEnd) (maxL := 3) (ret := (some .int)) (by decide) rfl rfl (Nat.le_of_ble_eq_true rfl) ?_
  intro p e s m args below meth c A ls S hK hA hP hD hS hl
  obtain ⟨hx, hb, hml, hown, hts, hr, hlocks⟩ := id S
  have hl : lv_has ls 3 [(0, .ref (a0 0)), (1, .int i1)] := hl
  refine lv_aload_n hx hb dX5_inTheEnd_0 rfl (lv_at hl 0 rfl) ?_
  refine lv_iload_n hx hb dX5_inTheEnd_1 rfl (lv_at hl 1 rfl) ?_
  obtain ⟨q1, hq1, hf⟩ := bd_some hf
  refine g_callVv S (As := [.int i1]) (gs' := [maW a0 (a1 0) (a2 0) (a3 0) (a4 0) (a7 0 0) (a8 0) (a9 0) (a9 1), stW G a1 v1, stW G a2 v2, rdW G a3 v3]) (c_X5_requireMember l G a0 a1 a2 a3 a4 a5 a6 a7 a8 a9 a10 a11 v1 i1 hq1) (cwV 1 hts gX5_inTheEnd_X5_requireMember rfl rfl rfl hd_X5_requireMember ⟨Nat.le_of_ble_eq_true rfl, Nat.le_of_ble_eq_true rfl⟩) hK hP hD hS hA (is := [0, 1]) rfl rfl 0 rfl rfl rfl rfl hl.1 rfl (Nat.le_of_ble_eq_true rfl) dX5_inTheEnd_2 ⟨Nat.le_of_ble_eq_true rfl, Nat.le_of_ble_eq_true rfl⟩ rfl (fun H locs hP hD hS => ?_)
  refine lv_aload_n hx hb dX5_inTheEnd_5 rfl (lv_at hl 0 rfl) ?_
  refine g_get (C := RX5) (T := TX5) (N := 8) hx hb hts iwX5_inTheEnd_X5 hown hK hP 0 0 rfl rfl rfl 1 (Nat.le_of_ble_eq_true rfl) (hts _ kX5_inTheEnd_0) (fun _ h9 => h9) rfl dX5_inTheEnd_6 ?_
  refine lv_aload_n hx hb dX5_inTheEnd_9 rfl (lv_at hl 0 rfl) ?_
  refine g_get (C := RX5) (T := TX5) (N := 8) hx hb hts iwX5_inTheEnd_X5 hown hK hP 0 0 rfl rfl rfl 0 (Nat.le_of_ble_eq_true rfl) (hts _ kX5_inTheEnd_1) (fun _ h9 => h9) rfl dX5_inTheEnd_10 ?_
  obtain ⟨q2, hq2, hf⟩ := bd_some hf
  refine g_callVv S (As := [.ref (a1 0)]) (gs' := [maW a0 (a1 0) (a2 0) (a3 0) (a4 0) (a7 0 0) (a8 0) (a9 0) (a9 1), stW G a1 v1, stW G a2 q2.2, rdW G a3 v3]) (c_X3_copyFrom l G a2 a1 v2 v1 hq2) (cwV 1 hts gX5_inTheEnd_X3_copyFrom rfl rfl rfl hd_X3_copyFrom ⟨Nat.le_of_ble_eq_true rfl, Nat.le_of_ble_eq_true rfl⟩) hK hP hD hS hA (is := [2, 1]) rfl rfl 2 rfl rfl rfl rfl hl.1 rfl (Nat.le_of_ble_eq_true rfl) dX5_inTheEnd_13 ⟨Nat.le_of_ble_eq_true rfl, Nat.le_of_ble_eq_true rfl⟩ rfl (fun H locs hP hD hS => ?_)
  refine lv_iconst (v := (0:Int32)) hx hb dX5_inTheEnd_16 (by decide) ?_
  refine lv_istore_n (lv' := [(2, .int (0:Int32)), (0, .ref (a0 0)), (1, .int i1)]) hx hb dX5_inTheEnd_17 rfl hl (by decide) rfl (fun ls hl => ?_)
  obtain ⟨e10, he10, hf⟩ := bd_some hf
  refine w_X5_inTheEnd_18 (Q := _) S hK hA G a0 a1 a2 a3 a4 a5 a6 a7 a8 a9 a10 a11 v1 i1 FU _ e10 he10 _ _ _ hP hD hS (lv_sub hl [1, 2, 0] rfl) (fun H locs ls hP hD hS hl => ?_)
  refine lv_aload_n hx hb dX5_inTheEnd_62 rfl (lv_at hl 0 rfl) ?_
  refine g_get (C := RX5) (T := TX5) (N := 8) hx hb hts iwX5_inTheEnd_X5 hown hK hP 0 0 rfl rfl rfl 1 (Nat.le_of_ble_eq_true rfl) (hts _ kX5_inTheEnd_0) (fun _ h9 => h9) rfl dX5_inTheEnd_63 ?_
  refine g_get (C := RX3) (T := TX3) (N := 17) hx hb hts iwX5_inTheEnd_X3 hown hK hP 2 0 rfl rfl rfl 5 (Nat.le_of_ble_eq_true rfl) (hts _ kX5_inTheEnd_3) (fun _ h9 => h9) rfl dX5_inTheEnd_66 ?_
  refine lv_iload_n hx hb dX5_inTheEnd_69 rfl (lv_at hl 1 rfl) ?_
  obtain ⟨h11, hf⟩ := gi_some hf
  refine g_iald hx hb hK hP 2 1 0 rfl rfl rfl h11 dX5_inTheEnd_70 ?_
  cases hf
  exact g_iret hx hb hr hlocks hP hS dX5_inTheEnd_71
