set_option maxHeartbeats 16000000 in
set_option maxRecDepth 100000 in
theorem w_law {p : Program} {l : Launch} {e : Env} {s : State} {m : MethodId} {below : List Frame} {meth : Method} {c : Code} {b L : Nat} {xs : Nat → Int32} {A : Nat → Prop} (S : Ev p s m #[Value.ref b] meth c cL_law 11 (some .boolean) RL wsL_law) {G : uG} (hK : kK G s) (hA : ∀ q, s.heap.size ≤ q → A q) (hX : va_X b L xs s s.heap) (hbl : b < s.heap.size) (hbA : ¬ A b) (a0 : Nat → Nat) (a1 : Nat → Nat) (a2 : Nat → Nat) (a3 : Nat → Nat) (a4 : Nat → Nat) (a5 : Nat → Nat) (a6 : Nat → Nat) (a7 : Nat → Nat → Nat) (a8 : Nat → Nat) (a9 : Nat → Nat) (a10 : Nat → Nat) (a11 : Nat → Nat) (a12 : Nat → Nat) (hAs : ∀ q, A q → s.heap.size ≤ q) (i3 : Int32) : ∀ (n : Nat) (z : Int32 × LwV) (e1 : LwV), lp (b_law xs L i3) n z = some e1 → ∀ (H : Heap) (locs : List Loc) (ls : Array Slot), gP G [maW a0 (a1 0) (a2 0) (a3 0) (a4 0) (a7 0 0) (a8 0) (a9 0) (a9 1), stW G a1 z.2.1, stW G a2 z.2.2.1, rdW G a3 z.2.2.2.1, paW G a7 z.2.2.2.2.1, arW G a12 z.2.2.2.2.2] H → gD A [maW a0 (a1 0) (a2 0) (a3 0) (a4 0) (a7 0 0) (a8 0) (a9 0) (a9 1), stW G a1 z.2.1, stW G a2 z.2.2.1, rdW G a3 z.2.2.2.1, paW G a7 z.2.2.2.2.1, arW G a12 z.2.2.2.2.2] → va_S A s.heap H locs → lv_has ls 11 [(0, .ref b), (1, .ref (a0 0)), (2, .ref (a12 0)), (3, .int i3), (5, .int z.1)] → W p l e room_1 s m #[Value.ref b] below meth c H locs 262 3399 (lw_Z below #[Value.ref b] s) (F0 m 74 ls []) := by
  obtain ⟨hx, hb, hml, hown, hts, hr, hlocks⟩ := id S
  intro n
  induction n with
  | zero => intro z e1 h; cases h
  | succ n ih =>
    intro z e1 hlp H locs ls hP hD hS hl
    obtain ⟨z9, hf, hz⟩ := lp_s hlp
    unfold b_law at hf
    refine lv_iload hx hb dL_law_74 (lv_at hl 4 rfl) ?_
    refine lv_bipush (v := (7:Int32)) hx hb dL_law_76 (by decide) ?_
    refine lv_icmp_ge (tgt := 318) hx hb dL_law_78 (by decide) (fun c1 => ?_) (fun c1 => ?_)
    · refine lv_iconst (v := (1:Int32)) hx hb dL_law_318 (by decide) ?_
      refine va_forget (fun q hq => hAs _ (hS.2.2 q hq)) ?_
      refine W.widen (k := 600130) (n := 7301080) (Nat.le_of_ble_eq_true rfl) (Nat.le_of_ble_eq_true rfl) ?_
      exact lw_ret hx hb hr hlocks dL_law_319
    · rw [if_neg c1] at hf
      obtain ⟨w1, hw1, hf⟩ := bd_some hf
      refine w_law_81 S hK hA hX hbl hbA a0 a1 a2 a3 a4 a5 a6 a7 a8 a9 a10 a11 a12 z.2.1 z.2.2.1 z.2.2.2.1 z.2.2.2.2.1 z.2.2.2.2.2 i3 z.1 hw1 hP hD hS (lv_sub hl [0, 1, 2, 3, 4] rfl) (fun H locs ls hP hD hS hl => ?_)
      obtain ⟨w2, hw2, hf⟩ := bd_some hf
      refine w_law_145 S hK hA hX hbl hbA a0 a1 a2 a3 a4 a5 a6 a7 a8 a9 a10 a11 a12 w1.1 w1.2.1 w1.2.2.1 w1.2.2.2.1 w1.2.2.2.2.1 i3 z.1 w1.2.2.2.2.2 hw2 hP hD hS (lv_sub hl [0, 1, 2, 3, 4, 5] rfl) (fun H locs ls hP hD hS hl => ?_)
      obtain ⟨w3, hw3, hf⟩ := bd_some hf
      refine w_law_174 S hK hA hX hbl hbA a0 a1 a2 a3 a4 a5 a6 a7 a8 a9 a10 a11 a12 w2.1 w2.2.1 w2.2.2.1 w2.2.2.2.1 w2.2.2.2.2 i3 z.1 w1.2.2.2.2.2 hw3 hP hD hS (lv_sub hl [0, 1, 2, 3, 4, 5] rfl) (fun H locs ls hP hD hS hl => ?_)
      obtain ⟨w4, hw4, hf⟩ := bd_some hf
      refine w_law_204 S hK hA hX hbl hbA a0 a1 a2 a3 a4 a5 a6 a7 a8 a9 a10 a11 a12 w3.1 w3.2.1 w3.2.2.1 w3.2.2.2.1 w3.2.2.2.2 i3 z.1 w1.2.2.2.2.2 hw4 hP hD hS (lv_sub hl [0, 1, 2, 3, 4, 5] rfl) (fun H locs ls hP hD hS hl => ?_)
      obtain ⟨w5, hw5, hf⟩ := bd_some hf
      refine w_law_249 S hK hA hX hbl hbA a0 a1 a2 a3 a4 a5 a6 a7 a8 a9 a10 a11 a12 w4.1 w4.2.1 w4.2.2.1 w4.2.2.2.1 w4.2.2.2.2.1 i3 z.1 w1.2.2.2.2.2 w4.2.2.2.2.2 hw5 hP hD hS (lv_sub hl [0, 1, 2, 3, 4, 5, 6] rfl) (fun H locs ls hP hD hS hl => ?_)
      obtain ⟨w6, hw6, hf⟩ := bd_some hf
      refine w_law_302 S hK hA hX hbl hbA a0 a1 a2 a3 a4 a5 a6 a7 a8 a9 a10 a11 a12 w5.1 w5.2.1 w5.2.2.1 w5.2.2.2.1 w5.2.2.2.2 i3 z.1 hw6 hP hD hS (lv_sub hl [0, 1, 2, 3, 4] rfl) (fun H locs ls hP hD hS hl => ?_)
      obtain ⟨x9, ex9, hf⟩ := lt_some hf
      refine lv_iinc (v := x9) (lv' := [(5, .int x9), (0, .ref b), (1, .ref (a0 0)), (2, .ref (a12 0)), (3, .int i3)]) hx hb dL_law_312 hl (k := 4) rfl (by rw [ex9]; rfl) (by decide) rfl (fun ls hl => ?_)
      refine lv_goto (tgt := 74) hx hb dL_law_315 (by decide) ?_
      exact ih _ e1 (lz_l hf hz) H locs ls hP hD hS (lv_sub hl [1, 2, 3, 4, 0] rfl)
