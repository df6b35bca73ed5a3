set_option maxHeartbeats 16000000 in
set_option maxRecDepth 100000 in
theorem w_law {p : Program} {l : Launch} (hl0 : l.stackTraces = false) {e : Env} {s : State} {m : MethodId} {below : List Frame} {meth : Method} {c : Code} {b L : Nat} {xs : Nat → Int32} {A : Nat → Prop} (S : Ev p s m #[Value.ref b] meth c cL_law 7 (some .boolean) RL wsL_law) {G : uG} (hK : kK G s) (hA : ∀ q, s.heap.size ≤ q → A q) (hTH : gTH A s s.heap) (hX : va_X b L xs s s.heap) (hbl : b < s.heap.size) (hbA : ¬ A b) (a0 : Nat → Nat) (a1 : Nat → Nat) (a2 : Nat → Nat) (a3 : Nat → Nat) (a4 : Nat → Nat) (a5 : Nat → Nat) (a6 : Nat → Nat) (a7 : Nat → Nat → Nat) (a8 : Nat → Nat) (a9 : Nat → Nat) (a10 : Nat → Nat) (a11 : Nat → Nat) (a12 : Nat → Nat) (a13 : Nat → Nat) (hAs : ∀ q, A q → s.heap.size ≤ q) : ∀ (n : Nat) (z : Int32 × LwV) (e1 : LwV), lp (b_law xs L) n z = some e1 → ∀ (c9 s9 : Nat), c9 + 4 * n ≤ 601024 → s9 + 24 * n ≤ 7293033 → ∀ (H : Heap) (locs : List Loc) (ls : Array Slot), gP G [maW a0 (a1 0) (a2 0) (a3 0) (a4 0) (a7 0 0) (a8 0) (a9 0) (a9 1), stW G a1 z.2.1, stW G a2 z.2.2.1, rdW G a3 z.2.2.2.1, scW a4 (a5 0) (a6 0), stW G a5 z.2.2.2.2.1, rdW G a6 z.2.2.2.2.2.1, paW G a7 z.2.2.2.2.2.2.1, txW G a8 z.2.2.2.2.2.2.2.1, slW G a9 (a10 0) (a11 0) z.2.2.2.2.2.2.2.2.1, stW G a10 z.2.2.2.2.2.2.2.2.2.1, stW G a11 z.2.2.2.2.2.2.2.2.2.2.1, mdW G a12 z.2.2.2.2.2.2.2.2.2.2.2.1, ouW G a13 z.2.2.2.2.2.2.2.2.2.2.2.2] H → gD A [maW a0 (a1 0) (a2 0) (a3 0) (a4 0) (a7 0 0) (a8 0) (a9 0) (a9 1), stW G a1 z.2.1, stW G a2 z.2.2.1, rdW G a3 z.2.2.2.1, scW a4 (a5 0) (a6 0), stW G a5 z.2.2.2.2.1, rdW G a6 z.2.2.2.2.2.1, paW G a7 z.2.2.2.2.2.2.1, txW G a8 z.2.2.2.2.2.2.2.1, slW G a9 (a10 0) (a11 0) z.2.2.2.2.2.2.2.2.1, stW G a10 z.2.2.2.2.2.2.2.2.2.1, stW G a11 z.2.2.2.2.2.2.2.2.2.2.1, mdW G a12 z.2.2.2.2.2.2.2.2.2.2.2.1, ouW G a13 z.2.2.2.2.2.2.2.2.2.2.2.2] → va_S A s.heap H locs → lv_has ls 7 [(0, .ref b), (1, .ref (a0 0)), (2, .ref (a12 0)), (3, .ref (a13 0)), (4, .int z.1)] → W p l e room_1 s m #[Value.ref b] below meth c H locs c9 s9 (lw_Z below #[Value.ref b] s) (F0 m 23 ls []) := by
  obtain ⟨hx, hb, hml, hown, hts, hr, hlocks⟩ := id S
  intro n
  induction n with
  | zero => intro z e1 h; cases h
  | succ n ih =>
    intro z e1 hlp c9 s9 hc9 hs9 H locs ls hP hD hS hl
    obtain ⟨z9, hf, hz⟩ := lp_s hlp
    unfold b_law at hf
    refine lv_iload hx hb dL_law_23 (lv_at hl 4 rfl) ?_
    refine lv_aload_n hx hb dL_law_25 rfl (lv_at hl 0 rfl) ?_
    refine va_slen hx hb hX hbl hbA hS dL_law_26 ?_
    refine lv_iconst (v := (4:Int32)) hx hb dL_law_27 (by decide) ?_
    refine lv_isub hx hb dL_law_28 ?_
    refine lv_icmp_gt (tgt := 1802) hx hb dL_law_29 (by decide) (fun c1 => ?_) (fun c1 => ?_)
    · refine lv_iconst (v := (1:Int32)) hx hb dL_law_1802 (by decide) ?_
      refine va_forget (fun q hq => hAs _ (hS.2.2 q hq)) ?_
      refine W.widen (k := 601024) (n := 7293033) (by omega) (by omega) ?_
      exact lw_ret (d0 := s.drawn) (Drawn.sameBut.refl s.drawn lw_cs) hx hb hr hlocks dL_law_1803
    · rw [if_neg c1] at hf
      refine lv_aload_n hx hb dL_law_32 rfl (lv_at hl 0 rfl) ?_
      refine lv_iload hx hb dL_law_33 (lv_at hl 4 rfl) ?_
      obtain ⟨h2, hf⟩ := gi_some hf
      refine va_sld hx hb hX hbl hbA hS h2 dL_law_35 ?_
      refine lv_bipush (v := (31:Int32)) hx hb dL_law_36 (by decide) ?_
      refine lv_iand hx hb dL_law_38 ?_
      obtain ⟨x3, ex3, hf⟩ := lt_some hf
      refine lv_nmi ex3 ?_
      by_cases d0 : x3 = (0:Int32)
      · rw [if_pos d0] at hf
        refine lv_tableIn (tgt := 172) hx hb dL_law_39 (by rw [d0]; decide) (by rw [d0]; decide) (by rw [d0]; rfl) (by decide) ?_
        obtain ⟨w9, hw9, hf⟩ := bd_some hf
        refine w_law_172 hl0 S hK hA hTH hX hbl hbA a0 a1 a2 a3 a4 a5 a6 a7 a8 a9 a10 a11 a12 a13 _ z.2.1 z.2.2.1 z.2.2.2.1 z.2.2.2.2.1 z.2.2.2.2.2.1 z.2.2.2.2.2.2.1 z.2.2.2.2.2.2.2.1 z.2.2.2.2.2.2.2.2.1 z.2.2.2.2.2.2.2.2.2.1 z.2.2.2.2.2.2.2.2.2.2.1 z.2.2.2.2.2.2.2.2.2.2.2.1 z.2.2.2.2.2.2.2.2.2.2.2.2 (c9 := c9) (s9 := s9) (by omega) (by omega) hw9 hP hD hS hl (fun H locs ls hP hD hS hl => ?_)
        obtain ⟨x4, ex4, hf⟩ := lt_some hf
        refine lv_iinc (v := x4) (lv' := [(4, .int x4), (0, .ref b), (1, .ref (a0 0)), (2, .ref (a12 0)), (3, .ref (a13 0))]) hx hb dL_law_1796 hl (k := 4) rfl (by rw [ex4]; rfl) (by decide) rfl (fun ls hl => ?_)
        refine lv_goto (tgt := 23) hx hb dL_law_1799 (by decide) ?_
        exact ih _ e1 (lz_l hf hz) (c9 + 4) (s9 + 24) (by omega) (by omega) H locs ls hP hD hS (lv_sub hl [1, 2, 3, 4, 0] rfl)
      · rw [if_neg d0] at hf
        by_cases d1 : x3 = (1:Int32)
        · rw [if_pos d1] at hf
          refine lv_tableIn (tgt := 228) hx hb dL_law_39 (by rw [d1]; decide) (by rw [d1]; decide) (by rw [d1]; rfl) (by decide) ?_
          obtain ⟨w9, hw9, hf⟩ := bd_some hf
          refine w_law_228 hl0 S hK hA hTH hX hbl hbA a0 a1 a2 a3 a4 a5 a6 a7 a8 a9 a10 a11 a12 a13 _ z.2.1 z.2.2.1 z.2.2.2.1 z.2.2.2.2.1 z.2.2.2.2.2.1 z.2.2.2.2.2.2.1 z.2.2.2.2.2.2.2.1 z.2.2.2.2.2.2.2.2.1 z.2.2.2.2.2.2.2.2.2.1 z.2.2.2.2.2.2.2.2.2.2.1 z.2.2.2.2.2.2.2.2.2.2.2.1 z.2.2.2.2.2.2.2.2.2.2.2.2 (c9 := c9) (s9 := s9) (by omega) (by omega) hw9 hP hD hS hl (fun H locs ls hP hD hS hl => ?_)
          obtain ⟨x4, ex4, hf⟩ := lt_some hf
          refine lv_iinc (v := x4) (lv' := [(4, .int x4), (0, .ref b), (1, .ref (a0 0)), (2, .ref (a12 0)), (3, .ref (a13 0))]) hx hb dL_law_1796 hl (k := 4) rfl (by rw [ex4]; rfl) (by decide) rfl (fun ls hl => ?_)
          refine lv_goto (tgt := 23) hx hb dL_law_1799 (by decide) ?_
          exact ih _ e1 (lz_l hf hz) (c9 + 4) (s9 + 24) (by omega) (by omega) H locs ls hP hD hS (lv_sub hl [1, 2, 3, 4, 0] rfl)
        · rw [if_neg d1] at hf
          by_cases d2 : x3 = (2:Int32)
          · rw [if_pos d2] at hf
            refine lv_tableIn (tgt := 241) hx hb dL_law_39 (by rw [d2]; decide) (by rw [d2]; decide) (by rw [d2]; rfl) (by decide) ?_
            obtain ⟨w9, hw9, hf⟩ := bd_some hf
            refine w_law_241 hl0 S hK hA hTH hX hbl hbA a0 a1 a2 a3 a4 a5 a6 a7 a8 a9 a10 a11 a12 a13 _ z.2.1 z.2.2.1 z.2.2.2.1 z.2.2.2.2.1 z.2.2.2.2.2.1 z.2.2.2.2.2.2.1 z.2.2.2.2.2.2.2.1 z.2.2.2.2.2.2.2.2.1 z.2.2.2.2.2.2.2.2.2.1 z.2.2.2.2.2.2.2.2.2.2.1 z.2.2.2.2.2.2.2.2.2.2.2.1 z.2.2.2.2.2.2.2.2.2.2.2.2 (c9 := c9) (s9 := s9) (by omega) (by omega) hw9 hP hD hS hl (fun H locs ls hP hD hS hl => ?_)
            obtain ⟨x4, ex4, hf⟩ := lt_some hf
            refine lv_iinc (v := x4) (lv' := [(4, .int x4), (0, .ref b), (1, .ref (a0 0)), (2, .ref (a12 0)), (3, .ref (a13 0))]) hx hb dL_law_1796 hl (k := 4) rfl (by rw [ex4]; rfl) (by decide) rfl (fun ls hl => ?_)
            refine lv_goto (tgt := 23) hx hb dL_law_1799 (by decide) ?_
            exact ih _ e1 (lz_l hf hz) (c9 + 4) (s9 + 24) (by omega) (by omega) H locs ls hP hD hS (lv_sub hl [1, 2, 3, 4, 0] rfl)
          · rw [if_neg d2] at hf
            by_cases d3 : x3 = (3:Int32)
            · rw [if_pos d3] at hf
              refine lv_tableIn (tgt := 254) hx hb dL_law_39 (by rw [d3]; decide) (by rw [d3]; decide) (by rw [d3]; rfl) (by decide) ?_
              obtain ⟨w9, hw9, hf⟩ := bd_some hf
              refine w_law_254 hl0 S hK hA hTH hX hbl hbA a0 a1 a2 a3 a4 a5 a6 a7 a8 a9 a10 a11 a12 a13 _ z.2.1 z.2.2.1 z.2.2.2.1 z.2.2.2.2.1 z.2.2.2.2.2.1 z.2.2.2.2.2.2.1 z.2.2.2.2.2.2.2.1 z.2.2.2.2.2.2.2.2.1 z.2.2.2.2.2.2.2.2.2.1 z.2.2.2.2.2.2.2.2.2.2.1 z.2.2.2.2.2.2.2.2.2.2.2.1 z.2.2.2.2.2.2.2.2.2.2.2.2 (c9 := c9) (s9 := s9) (by omega) (by omega) hw9 hP hD hS hl (fun H locs ls hP hD hS hl => ?_)
              obtain ⟨x4, ex4, hf⟩ := lt_some hf
              refine lv_iinc (v := x4) (lv' := [(4, .int x4), (0, .ref b), (1, .ref (a0 0)), (2, .ref (a12 0)), (3, .ref (a13 0))]) hx hb dL_law_1796 hl (k := 4) rfl (by rw [ex4]; rfl) (by decide) rfl (fun ls hl => ?_)
              refine lv_goto (tgt := 23) hx hb dL_law_1799 (by decide) ?_
              exact ih _ e1 (lz_l hf hz) (c9 + 4) (s9 + 24) (by omega) (by omega) H locs ls hP hD hS (lv_sub hl [1, 2, 3, 4, 0] rfl)
            · rw [if_neg d3] at hf
              by_cases d4 : x3 = (4:Int32)
              · rw [if_pos d4] at hf
                refine lv_tableIn (tgt := 298) hx hb dL_law_39 (by rw [d4]; decide) (by rw [d4]; decide) (by rw [d4]; rfl) (by decide) ?_
                obtain ⟨w9, hw9, hf⟩ := bd_some hf
                refine w_law_298 hl0 S hK hA hTH hX hbl hbA a0 a1 a2 a3 a4 a5 a6 a7 a8 a9 a10 a11 a12 a13 _ z.2.1 z.2.2.1 z.2.2.2.1 z.2.2.2.2.1 z.2.2.2.2.2.1 z.2.2.2.2.2.2.1 z.2.2.2.2.2.2.2.1 z.2.2.2.2.2.2.2.2.1 z.2.2.2.2.2.2.2.2.2.1 z.2.2.2.2.2.2.2.2.2.2.1 z.2.2.2.2.2.2.2.2.2.2.2.1 z.2.2.2.2.2.2.2.2.2.2.2.2 (c9 := c9) (s9 := s9) (by omega) (by omega) hw9 hP hD hS hl (fun H locs ls hP hD hS hl => ?_)
                obtain ⟨x4, ex4, hf⟩ := lt_some hf
                refine lv_iinc (v := x4) (lv' := [(4, .int x4), (0, .ref b), (1, .ref (a0 0)), (2, .ref (a12 0)), (3, .ref (a13 0))]) hx hb dL_law_1796 hl (k := 4) rfl (by rw [ex4]; rfl) (by decide) rfl (fun ls hl => ?_)
                refine lv_goto (tgt := 23) hx hb dL_law_1799 (by decide) ?_
                exact ih _ e1 (lz_l hf hz) (c9 + 4) (s9 + 24) (by omega) (by omega) H locs ls hP hD hS (lv_sub hl [1, 2, 3, 4, 0] rfl)
              · rw [if_neg d4] at hf
                by_cases d5 : x3 = (5:Int32)
                · rw [if_pos d5] at hf
                  refine lv_tableIn (tgt := 354) hx hb dL_law_39 (by rw [d5]; decide) (by rw [d5]; decide) (by rw [d5]; rfl) (by decide) ?_
                  obtain ⟨w9, hw9, hf⟩ := bd_some hf
                  refine w_law_354 hl0 S hK hA hTH hX hbl hbA a0 a1 a2 a3 a4 a5 a6 a7 a8 a9 a10 a11 a12 a13 _ z.2.1 z.2.2.1 z.2.2.2.1 z.2.2.2.2.1 z.2.2.2.2.2.1 z.2.2.2.2.2.2.1 z.2.2.2.2.2.2.2.1 z.2.2.2.2.2.2.2.2.1 z.2.2.2.2.2.2.2.2.2.1 z.2.2.2.2.2.2.2.2.2.2.1 z.2.2.2.2.2.2.2.2.2.2.2.1 z.2.2.2.2.2.2.2.2.2.2.2.2 (c9 := c9) (s9 := s9) (by omega) (by omega) hw9 hP hD hS hl (fun H locs ls hP hD hS hl => ?_)
                  obtain ⟨x4, ex4, hf⟩ := lt_some hf
                  refine lv_iinc (v := x4) (lv' := [(4, .int x4), (0, .ref b), (1, .ref (a0 0)), (2, .ref (a12 0)), (3, .ref (a13 0))]) hx hb dL_law_1796 hl (k := 4) rfl (by rw [ex4]; rfl) (by decide) rfl (fun ls hl => ?_)
                  refine lv_goto (tgt := 23) hx hb dL_law_1799 (by decide) ?_
                  exact ih _ e1 (lz_l hf hz) (c9 + 4) (s9 + 24) (by omega) (by omega) H locs ls hP hD hS (lv_sub hl [1, 2, 3, 4, 0] rfl)
                · rw [if_neg d5] at hf
                  by_cases d6 : x3 = (6:Int32)
                  · rw [if_pos d6] at hf
                    refine lv_tableIn (tgt := 422) hx hb dL_law_39 (by rw [d6]; decide) (by rw [d6]; decide) (by rw [d6]; rfl) (by decide) ?_
                    obtain ⟨w9, hw9, hf⟩ := bd_some hf
                    refine w_law_422 hl0 S hK hA hTH hX hbl hbA a0 a1 a2 a3 a4 a5 a6 a7 a8 a9 a10 a11 a12 a13 _ z.2.1 z.2.2.1 z.2.2.2.1 z.2.2.2.2.1 z.2.2.2.2.2.1 z.2.2.2.2.2.2.1 z.2.2.2.2.2.2.2.1 z.2.2.2.2.2.2.2.2.1 z.2.2.2.2.2.2.2.2.2.1 z.2.2.2.2.2.2.2.2.2.2.1 z.2.2.2.2.2.2.2.2.2.2.2.1 z.2.2.2.2.2.2.2.2.2.2.2.2 (c9 := c9) (s9 := s9) (by omega) (by omega) hw9 hP hD hS hl (fun H locs ls hP hD hS hl => ?_)
                    obtain ⟨x4, ex4, hf⟩ := lt_some hf
                    refine lv_iinc (v := x4) (lv' := [(4, .int x4), (0, .ref b), (1, .ref (a0 0)), (2, .ref (a12 0)), (3, .ref (a13 0))]) hx hb dL_law_1796 hl (k := 4) rfl (by rw [ex4]; rfl) (by decide) rfl (fun ls hl => ?_)
                    refine lv_goto (tgt := 23) hx hb dL_law_1799 (by decide) ?_
                    exact ih _ e1 (lz_l hf hz) (c9 + 4) (s9 + 24) (by omega) (by omega) H locs ls hP hD hS (lv_sub hl [1, 2, 3, 4, 0] rfl)
                  · rw [if_neg d6] at hf
                    by_cases d7 : x3 = (7:Int32)
                    · rw [if_pos d7] at hf
                      refine lv_tableIn (tgt := 490) hx hb dL_law_39 (by rw [d7]; decide) (by rw [d7]; decide) (by rw [d7]; rfl) (by decide) ?_
                      obtain ⟨w9, hw9, hf⟩ := bd_some hf
                      refine w_law_490 hl0 S hK hA hTH hX hbl hbA a0 a1 a2 a3 a4 a5 a6 a7 a8 a9 a10 a11 a12 a13 _ z.2.1 z.2.2.1 z.2.2.2.1 z.2.2.2.2.1 z.2.2.2.2.2.1 z.2.2.2.2.2.2.1 z.2.2.2.2.2.2.2.1 z.2.2.2.2.2.2.2.2.1 z.2.2.2.2.2.2.2.2.2.1 z.2.2.2.2.2.2.2.2.2.2.1 z.2.2.2.2.2.2.2.2.2.2.2.1 z.2.2.2.2.2.2.2.2.2.2.2.2 (c9 := c9) (s9 := s9) (by omega) (by omega) hw9 hP hD hS hl (fun H locs ls hP hD hS hl => ?_)
                      obtain ⟨x4, ex4, hf⟩ := lt_some hf
                      refine lv_iinc (v := x4) (lv' := [(4, .int x4), (0, .ref b), (1, .ref (a0 0)), (2, .ref (a12 0)), (3, .ref (a13 0))]) hx hb dL_law_1796 hl (k := 4) rfl (by rw [ex4]; rfl) (by decide) rfl (fun ls hl => ?_)
                      refine lv_goto (tgt := 23) hx hb dL_law_1799 (by decide) ?_
                      exact ih _ e1 (lz_l hf hz) (c9 + 4) (s9 + 24) (by omega) (by omega) H locs ls hP hD hS (lv_sub hl [1, 2, 3, 4, 0] rfl)
                    · rw [if_neg d7] at hf
                      by_cases d8 : x3 = (8:Int32)
                      · rw [if_pos d8] at hf
                        refine lv_tableIn (tgt := 546) hx hb dL_law_39 (by rw [d8]; decide) (by rw [d8]; decide) (by rw [d8]; rfl) (by decide) ?_
                        obtain ⟨w9, hw9, hf⟩ := bd_some hf
                        refine w_law_546 hl0 S hK hA hTH hX hbl hbA a0 a1 a2 a3 a4 a5 a6 a7 a8 a9 a10 a11 a12 a13 _ z.2.1 z.2.2.1 z.2.2.2.1 z.2.2.2.2.1 z.2.2.2.2.2.1 z.2.2.2.2.2.2.1 z.2.2.2.2.2.2.2.1 z.2.2.2.2.2.2.2.2.1 z.2.2.2.2.2.2.2.2.2.1 z.2.2.2.2.2.2.2.2.2.2.1 z.2.2.2.2.2.2.2.2.2.2.2.1 z.2.2.2.2.2.2.2.2.2.2.2.2 (c9 := c9) (s9 := s9) (by omega) (by omega) hw9 hP hD hS hl (fun H locs ls hP hD hS hl => ?_)
                        obtain ⟨x4, ex4, hf⟩ := lt_some hf
                        refine lv_iinc (v := x4) (lv' := [(4, .int x4), (0, .ref b), (1, .ref (a0 0)), (2, .ref (a12 0)), (3, .ref (a13 0))]) hx hb dL_law_1796 hl (k := 4) rfl (by rw [ex4]; rfl) (by decide) rfl (fun ls hl => ?_)
                        refine lv_goto (tgt := 23) hx hb dL_law_1799 (by decide) ?_
                        exact ih _ e1 (lz_l hf hz) (c9 + 4) (s9 + 24) (by omega) (by omega) H locs ls hP hD hS (lv_sub hl [1, 2, 3, 4, 0] rfl)
                      · rw [if_neg d8] at hf
                        by_cases d9 : x3 = (9:Int32)
                        · rw [if_pos d9] at hf
                          refine lv_tableIn (tgt := 602) hx hb dL_law_39 (by rw [d9]; decide) (by rw [d9]; decide) (by rw [d9]; rfl) (by decide) ?_
                          obtain ⟨w9, hw9, hf⟩ := bd_some hf
                          refine w_law_602 hl0 S hK hA hTH hX hbl hbA a0 a1 a2 a3 a4 a5 a6 a7 a8 a9 a10 a11 a12 a13 _ z.2.1 z.2.2.1 z.2.2.2.1 z.2.2.2.2.1 z.2.2.2.2.2.1 z.2.2.2.2.2.2.1 z.2.2.2.2.2.2.2.1 z.2.2.2.2.2.2.2.2.1 z.2.2.2.2.2.2.2.2.2.1 z.2.2.2.2.2.2.2.2.2.2.1 z.2.2.2.2.2.2.2.2.2.2.2.1 z.2.2.2.2.2.2.2.2.2.2.2.2 (c9 := c9) (s9 := s9) (by omega) (by omega) hw9 hP hD hS hl (fun H locs ls hP hD hS hl => ?_)
                          obtain ⟨x4, ex4, hf⟩ := lt_some hf
                          refine lv_iinc (v := x4) (lv' := [(4, .int x4), (0, .ref b), (1, .ref (a0 0)), (2, .ref (a12 0)), (3, .ref (a13 0))]) hx hb dL_law_1796 hl (k := 4) rfl (by rw [ex4]; rfl) (by decide) rfl (fun ls hl => ?_)
                          refine lv_goto (tgt := 23) hx hb dL_law_1799 (by decide) ?_
                          exact ih _ e1 (lz_l hf hz) (c9 + 4) (s9 + 24) (by omega) (by omega) H locs ls hP hD hS (lv_sub hl [1, 2, 3, 4, 0] rfl)
                        · rw [if_neg d9] at hf
                          by_cases d10 : x3 = (10:Int32)
                          · rw [if_pos d10] at hf
                            refine lv_tableIn (tgt := 658) hx hb dL_law_39 (by rw [d10]; decide) (by rw [d10]; decide) (by rw [d10]; rfl) (by decide) ?_
                            obtain ⟨w9, hw9, hf⟩ := bd_some hf
                            refine w_law_658 hl0 S hK hA hTH hX hbl hbA a0 a1 a2 a3 a4 a5 a6 a7 a8 a9 a10 a11 a12 a13 _ z.2.1 z.2.2.1 z.2.2.2.1 z.2.2.2.2.1 z.2.2.2.2.2.1 z.2.2.2.2.2.2.1 z.2.2.2.2.2.2.2.1 z.2.2.2.2.2.2.2.2.1 z.2.2.2.2.2.2.2.2.2.1 z.2.2.2.2.2.2.2.2.2.2.1 z.2.2.2.2.2.2.2.2.2.2.2.1 z.2.2.2.2.2.2.2.2.2.2.2.2 (c9 := c9) (s9 := s9) (by omega) (by omega) hw9 hP hD hS hl (fun H locs ls hP hD hS hl => ?_)
                            obtain ⟨x4, ex4, hf⟩ := lt_some hf
                            refine lv_iinc (v := x4) (lv' := [(4, .int x4), (0, .ref b), (1, .ref (a0 0)), (2, .ref (a12 0)), (3, .ref (a13 0))]) hx hb dL_law_1796 hl (k := 4) rfl (by rw [ex4]; rfl) (by decide) rfl (fun ls hl => ?_)
                            refine lv_goto (tgt := 23) hx hb dL_law_1799 (by decide) ?_
                            exact ih _ e1 (lz_l hf hz) (c9 + 4) (s9 + 24) (by omega) (by omega) H locs ls hP hD hS (lv_sub hl [1, 2, 3, 4, 0] rfl)
                          · rw [if_neg d10] at hf
                            by_cases d11 : x3 = (11:Int32)
                            · rw [if_pos d11] at hf
                              refine lv_tableIn (tgt := 714) hx hb dL_law_39 (by rw [d11]; decide) (by rw [d11]; decide) (by rw [d11]; rfl) (by decide) ?_
                              obtain ⟨w9, hw9, hf⟩ := bd_some hf
                              refine w_law_714 hl0 S hK hA hTH hX hbl hbA a0 a1 a2 a3 a4 a5 a6 a7 a8 a9 a10 a11 a12 a13 _ z.2.1 z.2.2.1 z.2.2.2.1 z.2.2.2.2.1 z.2.2.2.2.2.1 z.2.2.2.2.2.2.1 z.2.2.2.2.2.2.2.1 z.2.2.2.2.2.2.2.2.1 z.2.2.2.2.2.2.2.2.2.1 z.2.2.2.2.2.2.2.2.2.2.1 z.2.2.2.2.2.2.2.2.2.2.2.1 z.2.2.2.2.2.2.2.2.2.2.2.2 (c9 := c9) (s9 := s9) (by omega) (by omega) hw9 hP hD hS hl (fun H locs ls hP hD hS hl => ?_)
                              obtain ⟨x4, ex4, hf⟩ := lt_some hf
                              refine lv_iinc (v := x4) (lv' := [(4, .int x4), (0, .ref b), (1, .ref (a0 0)), (2, .ref (a12 0)), (3, .ref (a13 0))]) hx hb dL_law_1796 hl (k := 4) rfl (by rw [ex4]; rfl) (by decide) rfl (fun ls hl => ?_)
                              refine lv_goto (tgt := 23) hx hb dL_law_1799 (by decide) ?_
                              exact ih _ e1 (lz_l hf hz) (c9 + 4) (s9 + 24) (by omega) (by omega) H locs ls hP hD hS (lv_sub hl [1, 2, 3, 4, 0] rfl)
                            · rw [if_neg d11] at hf
                              by_cases d12 : x3 = (12:Int32)
                              · rw [if_pos d12] at hf
                                refine lv_tableIn (tgt := 782) hx hb dL_law_39 (by rw [d12]; decide) (by rw [d12]; decide) (by rw [d12]; rfl) (by decide) ?_
                                obtain ⟨w9, hw9, hf⟩ := bd_some hf
                                refine w_law_782 hl0 S hK hA hTH hX hbl hbA a0 a1 a2 a3 a4 a5 a6 a7 a8 a9 a10 a11 a12 a13 _ z.2.1 z.2.2.1 z.2.2.2.1 z.2.2.2.2.1 z.2.2.2.2.2.1 z.2.2.2.2.2.2.1 z.2.2.2.2.2.2.2.1 z.2.2.2.2.2.2.2.2.1 z.2.2.2.2.2.2.2.2.2.1 z.2.2.2.2.2.2.2.2.2.2.1 z.2.2.2.2.2.2.2.2.2.2.2.1 z.2.2.2.2.2.2.2.2.2.2.2.2 (c9 := c9) (s9 := s9) (by omega) (by omega) hw9 hP hD hS hl (fun H locs ls hP hD hS hl => ?_)
                                obtain ⟨x4, ex4, hf⟩ := lt_some hf
                                refine lv_iinc (v := x4) (lv' := [(4, .int x4), (0, .ref b), (1, .ref (a0 0)), (2, .ref (a12 0)), (3, .ref (a13 0))]) hx hb dL_law_1796 hl (k := 4) rfl (by rw [ex4]; rfl) (by decide) rfl (fun ls hl => ?_)
                                refine lv_goto (tgt := 23) hx hb dL_law_1799 (by decide) ?_
                                exact ih _ e1 (lz_l hf hz) (c9 + 4) (s9 + 24) (by omega) (by omega) H locs ls hP hD hS (lv_sub hl [1, 2, 3, 4, 0] rfl)
                              · rw [if_neg d12] at hf
                                by_cases d13 : x3 = (13:Int32)
                                · rw [if_pos d13] at hf
                                  refine lv_tableIn (tgt := 850) hx hb dL_law_39 (by rw [d13]; decide) (by rw [d13]; decide) (by rw [d13]; rfl) (by decide) ?_
                                  obtain ⟨w9, hw9, hf⟩ := bd_some hf
                                  refine w_law_850 hl0 S hK hA hTH hX hbl hbA a0 a1 a2 a3 a4 a5 a6 a7 a8 a9 a10 a11 a12 a13 _ z.2.1 z.2.2.1 z.2.2.2.1 z.2.2.2.2.1 z.2.2.2.2.2.1 z.2.2.2.2.2.2.1 z.2.2.2.2.2.2.2.1 z.2.2.2.2.2.2.2.2.1 z.2.2.2.2.2.2.2.2.2.1 z.2.2.2.2.2.2.2.2.2.2.1 z.2.2.2.2.2.2.2.2.2.2.2.1 z.2.2.2.2.2.2.2.2.2.2.2.2 (c9 := c9) (s9 := s9) (by omega) (by omega) hw9 hP hD hS hl (fun H locs ls hP hD hS hl => ?_)
                                  obtain ⟨x4, ex4, hf⟩ := lt_some hf
                                  refine lv_iinc (v := x4) (lv' := [(4, .int x4), (0, .ref b), (1, .ref (a0 0)), (2, .ref (a12 0)), (3, .ref (a13 0))]) hx hb dL_law_1796 hl (k := 4) rfl (by rw [ex4]; rfl) (by decide) rfl (fun ls hl => ?_)
                                  refine lv_goto (tgt := 23) hx hb dL_law_1799 (by decide) ?_
                                  exact ih _ e1 (lz_l hf hz) (c9 + 4) (s9 + 24) (by omega) (by omega) H locs ls hP hD hS (lv_sub hl [1, 2, 3, 4, 0] rfl)
                                · rw [if_neg d13] at hf
                                  by_cases d14 : x3 = (14:Int32)
                                  · rw [if_pos d14] at hf
                                    refine lv_tableIn (tgt := 941) hx hb dL_law_39 (by rw [d14]; decide) (by rw [d14]; decide) (by rw [d14]; rfl) (by decide) ?_
                                    obtain ⟨w9, hw9, hf⟩ := bd_some hf
                                    refine w_law_941 hl0 S hK hA hTH hX hbl hbA a0 a1 a2 a3 a4 a5 a6 a7 a8 a9 a10 a11 a12 a13 _ z.2.1 z.2.2.1 z.2.2.2.1 z.2.2.2.2.1 z.2.2.2.2.2.1 z.2.2.2.2.2.2.1 z.2.2.2.2.2.2.2.1 z.2.2.2.2.2.2.2.2.1 z.2.2.2.2.2.2.2.2.2.1 z.2.2.2.2.2.2.2.2.2.2.1 z.2.2.2.2.2.2.2.2.2.2.2.1 z.2.2.2.2.2.2.2.2.2.2.2.2 (c9 := c9) (s9 := s9) (by omega) (by omega) hw9 hP hD hS hl (fun H locs ls hP hD hS hl => ?_)
                                    obtain ⟨x4, ex4, hf⟩ := lt_some hf
                                    refine lv_iinc (v := x4) (lv' := [(4, .int x4), (0, .ref b), (1, .ref (a0 0)), (2, .ref (a12 0)), (3, .ref (a13 0))]) hx hb dL_law_1796 hl (k := 4) rfl (by rw [ex4]; rfl) (by decide) rfl (fun ls hl => ?_)
                                    refine lv_goto (tgt := 23) hx hb dL_law_1799 (by decide) ?_
                                    exact ih _ e1 (lz_l hf hz) (c9 + 4) (s9 + 24) (by omega) (by omega) H locs ls hP hD hS (lv_sub hl [1, 2, 3, 4, 0] rfl)
                                  · rw [if_neg d14] at hf
                                    by_cases d15 : x3 = (15:Int32)
                                    · rw [if_pos d15] at hf
                                      refine lv_tableIn (tgt := 1009) hx hb dL_law_39 (by rw [d15]; decide) (by rw [d15]; decide) (by rw [d15]; rfl) (by decide) ?_
                                      obtain ⟨w9, hw9, hf⟩ := bd_some hf
                                      refine w_law_1009 hl0 S hK hA hTH hX hbl hbA a0 a1 a2 a3 a4 a5 a6 a7 a8 a9 a10 a11 a12 a13 _ z.2.1 z.2.2.1 z.2.2.2.1 z.2.2.2.2.1 z.2.2.2.2.2.1 z.2.2.2.2.2.2.1 z.2.2.2.2.2.2.2.1 z.2.2.2.2.2.2.2.2.1 z.2.2.2.2.2.2.2.2.2.1 z.2.2.2.2.2.2.2.2.2.2.1 z.2.2.2.2.2.2.2.2.2.2.2.1 z.2.2.2.2.2.2.2.2.2.2.2.2 (c9 := c9) (s9 := s9) (by omega) (by omega) hw9 hP hD hS hl (fun H locs ls hP hD hS hl => ?_)
                                      obtain ⟨x4, ex4, hf⟩ := lt_some hf
                                      refine lv_iinc (v := x4) (lv' := [(4, .int x4), (0, .ref b), (1, .ref (a0 0)), (2, .ref (a12 0)), (3, .ref (a13 0))]) hx hb dL_law_1796 hl (k := 4) rfl (by rw [ex4]; rfl) (by decide) rfl (fun ls hl => ?_)
                                      refine lv_goto (tgt := 23) hx hb dL_law_1799 (by decide) ?_
                                      exact ih _ e1 (lz_l hf hz) (c9 + 4) (s9 + 24) (by omega) (by omega) H locs ls hP hD hS (lv_sub hl [1, 2, 3, 4, 0] rfl)
                                    · rw [if_neg d15] at hf
                                      by_cases d16 : x3 = (16:Int32)
                                      · rw [if_pos d16] at hf
                                        refine lv_tableIn (tgt := 1053) hx hb dL_law_39 (by rw [d16]; decide) (by rw [d16]; decide) (by rw [d16]; rfl) (by decide) ?_
                                        obtain ⟨w9, hw9, hf⟩ := bd_some hf
                                        refine w_law_1053 hl0 S hK hA hTH hX hbl hbA a0 a1 a2 a3 a4 a5 a6 a7 a8 a9 a10 a11 a12 a13 _ z.2.1 z.2.2.1 z.2.2.2.1 z.2.2.2.2.1 z.2.2.2.2.2.1 z.2.2.2.2.2.2.1 z.2.2.2.2.2.2.2.1 z.2.2.2.2.2.2.2.2.1 z.2.2.2.2.2.2.2.2.2.1 z.2.2.2.2.2.2.2.2.2.2.1 z.2.2.2.2.2.2.2.2.2.2.2.1 z.2.2.2.2.2.2.2.2.2.2.2.2 (c9 := c9) (s9 := s9) (by omega) (by omega) hw9 hP hD hS hl (fun H locs ls hP hD hS hl => ?_)
                                        obtain ⟨x4, ex4, hf⟩ := lt_some hf
                                        refine lv_iinc (v := x4) (lv' := [(4, .int x4), (0, .ref b), (1, .ref (a0 0)), (2, .ref (a12 0)), (3, .ref (a13 0))]) hx hb dL_law_1796 hl (k := 4) rfl (by rw [ex4]; rfl) (by decide) rfl (fun ls hl => ?_)
                                        refine lv_goto (tgt := 23) hx hb dL_law_1799 (by decide) ?_
                                        exact ih _ e1 (lz_l hf hz) (c9 + 4) (s9 + 24) (by omega) (by omega) H locs ls hP hD hS (lv_sub hl [1, 2, 3, 4, 0] rfl)
                                      · rw [if_neg d16] at hf
                                        by_cases d17 : x3 = (17:Int32)
                                        · rw [if_pos d17] at hf
                                          refine lv_tableIn (tgt := 1109) hx hb dL_law_39 (by rw [d17]; decide) (by rw [d17]; decide) (by rw [d17]; rfl) (by decide) ?_
                                          obtain ⟨w9, hw9, hf⟩ := bd_some hf
                                          refine w_law_1109 hl0 S hK hA hTH hX hbl hbA a0 a1 a2 a3 a4 a5 a6 a7 a8 a9 a10 a11 a12 a13 _ z.2.1 z.2.2.1 z.2.2.2.1 z.2.2.2.2.1 z.2.2.2.2.2.1 z.2.2.2.2.2.2.1 z.2.2.2.2.2.2.2.1 z.2.2.2.2.2.2.2.2.1 z.2.2.2.2.2.2.2.2.2.1 z.2.2.2.2.2.2.2.2.2.2.1 z.2.2.2.2.2.2.2.2.2.2.2.1 z.2.2.2.2.2.2.2.2.2.2.2.2 (c9 := c9) (s9 := s9) (by omega) (by omega) hw9 hP hD hS hl (fun H locs ls hP hD hS hl => ?_)
                                          obtain ⟨x4, ex4, hf⟩ := lt_some hf
                                          refine lv_iinc (v := x4) (lv' := [(4, .int x4), (0, .ref b), (1, .ref (a0 0)), (2, .ref (a12 0)), (3, .ref (a13 0))]) hx hb dL_law_1796 hl (k := 4) rfl (by rw [ex4]; rfl) (by decide) rfl (fun ls hl => ?_)
                                          refine lv_goto (tgt := 23) hx hb dL_law_1799 (by decide) ?_
                                          exact ih _ e1 (lz_l hf hz) (c9 + 4) (s9 + 24) (by omega) (by omega) H locs ls hP hD hS (lv_sub hl [1, 2, 3, 4, 0] rfl)
                                        · rw [if_neg d17] at hf
                                          by_cases d18 : x3 = (18:Int32)
                                          · rw [if_pos d18] at hf
                                            refine lv_tableIn (tgt := 1177) hx hb dL_law_39 (by rw [d18]; decide) (by rw [d18]; decide) (by rw [d18]; rfl) (by decide) ?_
                                            obtain ⟨w9, hw9, hf⟩ := bd_some hf
                                            refine w_law_1177 hl0 S hK hA hTH hX hbl hbA a0 a1 a2 a3 a4 a5 a6 a7 a8 a9 a10 a11 a12 a13 _ z.2.1 z.2.2.1 z.2.2.2.1 z.2.2.2.2.1 z.2.2.2.2.2.1 z.2.2.2.2.2.2.1 z.2.2.2.2.2.2.2.1 z.2.2.2.2.2.2.2.2.1 z.2.2.2.2.2.2.2.2.2.1 z.2.2.2.2.2.2.2.2.2.2.1 z.2.2.2.2.2.2.2.2.2.2.2.1 z.2.2.2.2.2.2.2.2.2.2.2.2 (c9 := c9) (s9 := s9) (by omega) (by omega) hw9 hP hD hS hl (fun H locs ls hP hD hS hl => ?_)
                                            obtain ⟨x4, ex4, hf⟩ := lt_some hf
                                            refine lv_iinc (v := x4) (lv' := [(4, .int x4), (0, .ref b), (1, .ref (a0 0)), (2, .ref (a12 0)), (3, .ref (a13 0))]) hx hb dL_law_1796 hl (k := 4) rfl (by rw [ex4]; rfl) (by decide) rfl (fun ls hl => ?_)
                                            refine lv_goto (tgt := 23) hx hb dL_law_1799 (by decide) ?_
                                            exact ih _ e1 (lz_l hf hz) (c9 + 4) (s9 + 24) (by omega) (by omega) H locs ls hP hD hS (lv_sub hl [1, 2, 3, 4, 0] rfl)
                                          · rw [if_neg d18] at hf
                                            by_cases d19 : x3 = (19:Int32)
                                            · rw [if_pos d19] at hf
                                              refine lv_tableIn (tgt := 1221) hx hb dL_law_39 (by rw [d19]; decide) (by rw [d19]; decide) (by rw [d19]; rfl) (by decide) ?_
                                              obtain ⟨w9, hw9, hf⟩ := bd_some hf
                                              refine w_law_1221 hl0 S hK hA hTH hX hbl hbA a0 a1 a2 a3 a4 a5 a6 a7 a8 a9 a10 a11 a12 a13 _ z.2.1 z.2.2.1 z.2.2.2.1 z.2.2.2.2.1 z.2.2.2.2.2.1 z.2.2.2.2.2.2.1 z.2.2.2.2.2.2.2.1 z.2.2.2.2.2.2.2.2.1 z.2.2.2.2.2.2.2.2.2.1 z.2.2.2.2.2.2.2.2.2.2.1 z.2.2.2.2.2.2.2.2.2.2.2.1 z.2.2.2.2.2.2.2.2.2.2.2.2 (c9 := c9) (s9 := s9) (by omega) (by omega) hw9 hP hD hS hl (fun H locs ls hP hD hS hl => ?_)
                                              obtain ⟨x4, ex4, hf⟩ := lt_some hf
                                              refine lv_iinc (v := x4) (lv' := [(4, .int x4), (0, .ref b), (1, .ref (a0 0)), (2, .ref (a12 0)), (3, .ref (a13 0))]) hx hb dL_law_1796 hl (k := 4) rfl (by rw [ex4]; rfl) (by decide) rfl (fun ls hl => ?_)
                                              refine lv_goto (tgt := 23) hx hb dL_law_1799 (by decide) ?_
                                              exact ih _ e1 (lz_l hf hz) (c9 + 4) (s9 + 24) (by omega) (by omega) H locs ls hP hD hS (lv_sub hl [1, 2, 3, 4, 0] rfl)
                                            · rw [if_neg d19] at hf
                                              by_cases d20 : x3 = (20:Int32)
                                              · rw [if_pos d20] at hf
                                                refine lv_tableIn (tgt := 1234) hx hb dL_law_39 (by rw [d20]; decide) (by rw [d20]; decide) (by rw [d20]; rfl) (by decide) ?_
                                                obtain ⟨w9, hw9, hf⟩ := bd_some hf
                                                refine w_law_1234 hl0 S hK hA hTH hX hbl hbA a0 a1 a2 a3 a4 a5 a6 a7 a8 a9 a10 a11 a12 a13 _ z.2.1 z.2.2.1 z.2.2.2.1 z.2.2.2.2.1 z.2.2.2.2.2.1 z.2.2.2.2.2.2.1 z.2.2.2.2.2.2.2.1 z.2.2.2.2.2.2.2.2.1 z.2.2.2.2.2.2.2.2.2.1 z.2.2.2.2.2.2.2.2.2.2.1 z.2.2.2.2.2.2.2.2.2.2.2.1 z.2.2.2.2.2.2.2.2.2.2.2.2 (c9 := c9) (s9 := s9) (by omega) (by omega) hw9 hP hD hS hl (fun H locs ls hP hD hS hl => ?_)
                                                obtain ⟨x4, ex4, hf⟩ := lt_some hf
                                                refine lv_iinc (v := x4) (lv' := [(4, .int x4), (0, .ref b), (1, .ref (a0 0)), (2, .ref (a12 0)), (3, .ref (a13 0))]) hx hb dL_law_1796 hl (k := 4) rfl (by rw [ex4]; rfl) (by decide) rfl (fun ls hl => ?_)
                                                refine lv_goto (tgt := 23) hx hb dL_law_1799 (by decide) ?_
                                                exact ih _ e1 (lz_l hf hz) (c9 + 4) (s9 + 24) (by omega) (by omega) H locs ls hP hD hS (lv_sub hl [1, 2, 3, 4, 0] rfl)
                                              · rw [if_neg d20] at hf
                                                by_cases d21 : x3 = (21:Int32)
                                                · rw [if_pos d21] at hf
                                                  refine lv_tableIn (tgt := 1247) hx hb dL_law_39 (by rw [d21]; decide) (by rw [d21]; decide) (by rw [d21]; rfl) (by decide) ?_
                                                  obtain ⟨w9, hw9, hf⟩ := bd_some hf
                                                  refine w_law_1247 hl0 S hK hA hTH hX hbl hbA a0 a1 a2 a3 a4 a5 a6 a7 a8 a9 a10 a11 a12 a13 _ z.2.1 z.2.2.1 z.2.2.2.1 z.2.2.2.2.1 z.2.2.2.2.2.1 z.2.2.2.2.2.2.1 z.2.2.2.2.2.2.2.1 z.2.2.2.2.2.2.2.2.1 z.2.2.2.2.2.2.2.2.2.1 z.2.2.2.2.2.2.2.2.2.2.1 z.2.2.2.2.2.2.2.2.2.2.2.1 z.2.2.2.2.2.2.2.2.2.2.2.2 (c9 := c9) (s9 := s9) (by omega) (by omega) hw9 hP hD hS hl (fun H locs ls hP hD hS hl => ?_)
                                                  obtain ⟨x4, ex4, hf⟩ := lt_some hf
                                                  refine lv_iinc (v := x4) (lv' := [(4, .int x4), (0, .ref b), (1, .ref (a0 0)), (2, .ref (a12 0)), (3, .ref (a13 0))]) hx hb dL_law_1796 hl (k := 4) rfl (by rw [ex4]; rfl) (by decide) rfl (fun ls hl => ?_)
                                                  refine lv_goto (tgt := 23) hx hb dL_law_1799 (by decide) ?_
                                                  exact ih _ e1 (lz_l hf hz) (c9 + 4) (s9 + 24) (by omega) (by omega) H locs ls hP hD hS (lv_sub hl [1, 2, 3, 4, 0] rfl)
                                                · rw [if_neg d21] at hf
                                                  by_cases d22 : x3 = (22:Int32)
                                                  · rw [if_pos d22] at hf
                                                    refine lv_tableIn (tgt := 1303) hx hb dL_law_39 (by rw [d22]; decide) (by rw [d22]; decide) (by rw [d22]; rfl) (by decide) ?_
                                                    obtain ⟨w9, hw9, hf⟩ := bd_some hf
                                                    refine w_law_1303 hl0 S hK hA hTH hX hbl hbA a0 a1 a2 a3 a4 a5 a6 a7 a8 a9 a10 a11 a12 a13 _ z.2.1 z.2.2.1 z.2.2.2.1 z.2.2.2.2.1 z.2.2.2.2.2.1 z.2.2.2.2.2.2.1 z.2.2.2.2.2.2.2.1 z.2.2.2.2.2.2.2.2.1 z.2.2.2.2.2.2.2.2.2.1 z.2.2.2.2.2.2.2.2.2.2.1 z.2.2.2.2.2.2.2.2.2.2.2.1 z.2.2.2.2.2.2.2.2.2.2.2.2 (c9 := c9) (s9 := s9) (by omega) (by omega) hw9 hP hD hS hl (fun H locs ls hP hD hS hl => ?_)
                                                    obtain ⟨x4, ex4, hf⟩ := lt_some hf
                                                    refine lv_iinc (v := x4) (lv' := [(4, .int x4), (0, .ref b), (1, .ref (a0 0)), (2, .ref (a12 0)), (3, .ref (a13 0))]) hx hb dL_law_1796 hl (k := 4) rfl (by rw [ex4]; rfl) (by decide) rfl (fun ls hl => ?_)
                                                    refine lv_goto (tgt := 23) hx hb dL_law_1799 (by decide) ?_
                                                    exact ih _ e1 (lz_l hf hz) (c9 + 4) (s9 + 24) (by omega) (by omega) H locs ls hP hD hS (lv_sub hl [1, 2, 3, 4, 0] rfl)
                                                  · rw [if_neg d22] at hf
                                                    by_cases d23 : x3 = (23:Int32)
                                                    · rw [if_pos d23] at hf
                                                      refine lv_tableIn (tgt := 1359) hx hb dL_law_39 (by rw [d23]; decide) (by rw [d23]; decide) (by rw [d23]; rfl) (by decide) ?_
                                                      obtain ⟨w9, hw9, hf⟩ := bd_some hf
                                                      refine w_law_1359 hl0 S hK hA hTH hX hbl hbA a0 a1 a2 a3 a4 a5 a6 a7 a8 a9 a10 a11 a12 a13 _ z.2.1 z.2.2.1 z.2.2.2.1 z.2.2.2.2.1 z.2.2.2.2.2.1 z.2.2.2.2.2.2.1 z.2.2.2.2.2.2.2.1 z.2.2.2.2.2.2.2.2.1 z.2.2.2.2.2.2.2.2.2.1 z.2.2.2.2.2.2.2.2.2.2.1 z.2.2.2.2.2.2.2.2.2.2.2.1 z.2.2.2.2.2.2.2.2.2.2.2.2 (c9 := c9) (s9 := s9) (by omega) (by omega) hw9 hP hD hS hl (fun H locs ls hP hD hS hl => ?_)
                                                      obtain ⟨x4, ex4, hf⟩ := lt_some hf
                                                      refine lv_iinc (v := x4) (lv' := [(4, .int x4), (0, .ref b), (1, .ref (a0 0)), (2, .ref (a12 0)), (3, .ref (a13 0))]) hx hb dL_law_1796 hl (k := 4) rfl (by rw [ex4]; rfl) (by decide) rfl (fun ls hl => ?_)
                                                      refine lv_goto (tgt := 23) hx hb dL_law_1799 (by decide) ?_
                                                      exact ih _ e1 (lz_l hf hz) (c9 + 4) (s9 + 24) (by omega) (by omega) H locs ls hP hD hS (lv_sub hl [1, 2, 3, 4, 0] rfl)
                                                    · rw [if_neg d23] at hf
                                                      by_cases d24 : x3 = (24:Int32)
                                                      · rw [if_pos d24] at hf
                                                        refine lv_tableIn (tgt := 1372) hx hb dL_law_39 (by rw [d24]; decide) (by rw [d24]; decide) (by rw [d24]; rfl) (by decide) ?_
                                                        obtain ⟨w9, hw9, hf⟩ := bd_some hf
                                                        refine w_law_1372 hl0 S hK hA hTH hX hbl hbA a0 a1 a2 a3 a4 a5 a6 a7 a8 a9 a10 a11 a12 a13 _ z.2.1 z.2.2.1 z.2.2.2.1 z.2.2.2.2.1 z.2.2.2.2.2.1 z.2.2.2.2.2.2.1 z.2.2.2.2.2.2.2.1 z.2.2.2.2.2.2.2.2.1 z.2.2.2.2.2.2.2.2.2.1 z.2.2.2.2.2.2.2.2.2.2.1 z.2.2.2.2.2.2.2.2.2.2.2.1 z.2.2.2.2.2.2.2.2.2.2.2.2 (c9 := c9) (s9 := s9) (by omega) (by omega) hw9 hP hD hS hl (fun H locs ls hP hD hS hl => ?_)
                                                        obtain ⟨x4, ex4, hf⟩ := lt_some hf
                                                        refine lv_iinc (v := x4) (lv' := [(4, .int x4), (0, .ref b), (1, .ref (a0 0)), (2, .ref (a12 0)), (3, .ref (a13 0))]) hx hb dL_law_1796 hl (k := 4) rfl (by rw [ex4]; rfl) (by decide) rfl (fun ls hl => ?_)
                                                        refine lv_goto (tgt := 23) hx hb dL_law_1799 (by decide) ?_
                                                        exact ih _ e1 (lz_l hf hz) (c9 + 4) (s9 + 24) (by omega) (by omega) H locs ls hP hD hS (lv_sub hl [1, 2, 3, 4, 0] rfl)
                                                      · rw [if_neg d24] at hf
                                                        by_cases d25 : x3 = (25:Int32)
                                                        · rw [if_pos d25] at hf
                                                          refine lv_tableIn (tgt := 1428) hx hb dL_law_39 (by rw [d25]; decide) (by rw [d25]; decide) (by rw [d25]; rfl) (by decide) ?_
                                                          obtain ⟨w9, hw9, hf⟩ := bd_some hf
                                                          refine w_law_1428 hl0 S hK hA hTH hX hbl hbA a0 a1 a2 a3 a4 a5 a6 a7 a8 a9 a10 a11 a12 a13 _ z.2.1 z.2.2.1 z.2.2.2.1 z.2.2.2.2.1 z.2.2.2.2.2.1 z.2.2.2.2.2.2.1 z.2.2.2.2.2.2.2.1 z.2.2.2.2.2.2.2.2.1 z.2.2.2.2.2.2.2.2.2.1 z.2.2.2.2.2.2.2.2.2.2.1 z.2.2.2.2.2.2.2.2.2.2.2.1 z.2.2.2.2.2.2.2.2.2.2.2.2 (c9 := c9) (s9 := s9) (by omega) (by omega) hw9 hP hD hS hl (fun H locs ls hP hD hS hl => ?_)
                                                          obtain ⟨x4, ex4, hf⟩ := lt_some hf
                                                          refine lv_iinc (v := x4) (lv' := [(4, .int x4), (0, .ref b), (1, .ref (a0 0)), (2, .ref (a12 0)), (3, .ref (a13 0))]) hx hb dL_law_1796 hl (k := 4) rfl (by rw [ex4]; rfl) (by decide) rfl (fun ls hl => ?_)
                                                          refine lv_goto (tgt := 23) hx hb dL_law_1799 (by decide) ?_
                                                          exact ih _ e1 (lz_l hf hz) (c9 + 4) (s9 + 24) (by omega) (by omega) H locs ls hP hD hS (lv_sub hl [1, 2, 3, 4, 0] rfl)
                                                        · rw [if_neg d25] at hf
                                                          by_cases d26 : x3 = (26:Int32)
                                                          · rw [if_pos d26] at hf
                                                            refine lv_tableIn (tgt := 1484) hx hb dL_law_39 (by rw [d26]; decide) (by rw [d26]; decide) (by rw [d26]; rfl) (by decide) ?_
                                                            obtain ⟨w9, hw9, hf⟩ := bd_some hf
                                                            refine w_law_1484 hl0 S hK hA hTH hX hbl hbA a0 a1 a2 a3 a4 a5 a6 a7 a8 a9 a10 a11 a12 a13 _ z.2.1 z.2.2.1 z.2.2.2.1 z.2.2.2.2.1 z.2.2.2.2.2.1 z.2.2.2.2.2.2.1 z.2.2.2.2.2.2.2.1 z.2.2.2.2.2.2.2.2.1 z.2.2.2.2.2.2.2.2.2.1 z.2.2.2.2.2.2.2.2.2.2.1 z.2.2.2.2.2.2.2.2.2.2.2.1 z.2.2.2.2.2.2.2.2.2.2.2.2 (c9 := c9) (s9 := s9) (by omega) (by omega) hw9 hP hD hS hl (fun H locs ls hP hD hS hl => ?_)
                                                            obtain ⟨x4, ex4, hf⟩ := lt_some hf
                                                            refine lv_iinc (v := x4) (lv' := [(4, .int x4), (0, .ref b), (1, .ref (a0 0)), (2, .ref (a12 0)), (3, .ref (a13 0))]) hx hb dL_law_1796 hl (k := 4) rfl (by rw [ex4]; rfl) (by decide) rfl (fun ls hl => ?_)
                                                            refine lv_goto (tgt := 23) hx hb dL_law_1799 (by decide) ?_
                                                            exact ih _ e1 (lz_l hf hz) (c9 + 4) (s9 + 24) (by omega) (by omega) H locs ls hP hD hS (lv_sub hl [1, 2, 3, 4, 0] rfl)
                                                          · rw [if_neg d26] at hf
                                                            by_cases d27 : x3 = (27:Int32)
                                                            · rw [if_pos d27] at hf
                                                              refine lv_tableIn (tgt := 1584) hx hb dL_law_39 (by rw [d27]; decide) (by rw [d27]; decide) (by rw [d27]; rfl) (by decide) ?_
                                                              obtain ⟨w9, hw9, hf⟩ := bd_some hf
                                                              refine w_law_1584 hl0 S hK hA hTH hX hbl hbA a0 a1 a2 a3 a4 a5 a6 a7 a8 a9 a10 a11 a12 a13 _ z.2.1 z.2.2.1 z.2.2.2.1 z.2.2.2.2.1 z.2.2.2.2.2.1 z.2.2.2.2.2.2.1 z.2.2.2.2.2.2.2.1 z.2.2.2.2.2.2.2.2.1 z.2.2.2.2.2.2.2.2.2.1 z.2.2.2.2.2.2.2.2.2.2.1 z.2.2.2.2.2.2.2.2.2.2.2.1 z.2.2.2.2.2.2.2.2.2.2.2.2 (c9 := c9) (s9 := s9) (by omega) (by omega) hw9 hP hD hS hl (fun H locs ls hP hD hS hl => ?_)
                                                              obtain ⟨x4, ex4, hf⟩ := lt_some hf
                                                              refine lv_iinc (v := x4) (lv' := [(4, .int x4), (0, .ref b), (1, .ref (a0 0)), (2, .ref (a12 0)), (3, .ref (a13 0))]) hx hb dL_law_1796 hl (k := 4) rfl (by rw [ex4]; rfl) (by decide) rfl (fun ls hl => ?_)
                                                              refine lv_goto (tgt := 23) hx hb dL_law_1799 (by decide) ?_
                                                              exact ih _ e1 (lz_l hf hz) (c9 + 4) (s9 + 24) (by omega) (by omega) H locs ls hP hD hS (lv_sub hl [1, 2, 3, 4, 0] rfl)
                                                            · rw [if_neg d27] at hf
                                                              by_cases d28 : x3 = (28:Int32)
                                                              · rw [if_pos d28] at hf
                                                                refine lv_tableIn (tgt := 1684) hx hb dL_law_39 (by rw [d28]; decide) (by rw [d28]; decide) (by rw [d28]; rfl) (by decide) ?_
                                                                obtain ⟨w9, hw9, hf⟩ := bd_some hf
                                                                refine w_law_1684 hl0 S hK hA hTH hX hbl hbA a0 a1 a2 a3 a4 a5 a6 a7 a8 a9 a10 a11 a12 a13 _ z.2.1 z.2.2.1 z.2.2.2.1 z.2.2.2.2.1 z.2.2.2.2.2.1 z.2.2.2.2.2.2.1 z.2.2.2.2.2.2.2.1 z.2.2.2.2.2.2.2.2.1 z.2.2.2.2.2.2.2.2.2.1 z.2.2.2.2.2.2.2.2.2.2.1 z.2.2.2.2.2.2.2.2.2.2.2.1 z.2.2.2.2.2.2.2.2.2.2.2.2 (c9 := c9) (s9 := s9) (by omega) (by omega) hw9 hP hD hS hl (fun H locs ls hP hD hS hl => ?_)
                                                                obtain ⟨x4, ex4, hf⟩ := lt_some hf
                                                                refine lv_iinc (v := x4) (lv' := [(4, .int x4), (0, .ref b), (1, .ref (a0 0)), (2, .ref (a12 0)), (3, .ref (a13 0))]) hx hb dL_law_1796 hl (k := 4) rfl (by rw [ex4]; rfl) (by decide) rfl (fun ls hl => ?_)
                                                                refine lv_goto (tgt := 23) hx hb dL_law_1799 (by decide) ?_
                                                                exact ih _ e1 (lz_l hf hz) (c9 + 4) (s9 + 24) (by omega) (by omega) H locs ls hP hD hS (lv_sub hl [1, 2, 3, 4, 0] rfl)
                                                              · rw [if_neg d28] at hf
                                                                by_cases d29 : x3 = (29:Int32)
                                                                · rw [if_pos d29] at hf
                                                                  refine lv_tableIn (tgt := 1740) hx hb dL_law_39 (by rw [d29]; decide) (by rw [d29]; decide) (by rw [d29]; rfl) (by decide) ?_
                                                                  obtain ⟨w9, hw9, hf⟩ := bd_some hf
                                                                  refine w_law_1740 hl0 S hK hA hTH hX hbl hbA a0 a1 a2 a3 a4 a5 a6 a7 a8 a9 a10 a11 a12 a13 _ z.2.1 z.2.2.1 z.2.2.2.1 z.2.2.2.2.1 z.2.2.2.2.2.1 z.2.2.2.2.2.2.1 z.2.2.2.2.2.2.2.1 z.2.2.2.2.2.2.2.2.1 z.2.2.2.2.2.2.2.2.2.1 z.2.2.2.2.2.2.2.2.2.2.1 z.2.2.2.2.2.2.2.2.2.2.2.1 z.2.2.2.2.2.2.2.2.2.2.2.2 (c9 := c9) (s9 := s9) (by omega) (by omega) hw9 hP hD hS hl (fun H locs ls hP hD hS hl => ?_)
                                                                  obtain ⟨x4, ex4, hf⟩ := lt_some hf
                                                                  refine lv_iinc (v := x4) (lv' := [(4, .int x4), (0, .ref b), (1, .ref (a0 0)), (2, .ref (a12 0)), (3, .ref (a13 0))]) hx hb dL_law_1796 hl (k := 4) rfl (by rw [ex4]; rfl) (by decide) rfl (fun ls hl => ?_)
                                                                  refine lv_goto (tgt := 23) hx hb dL_law_1799 (by decide) ?_
                                                                  exact ih _ e1 (lz_l hf hz) (c9 + 4) (s9 + 24) (by omega) (by omega) H locs ls hP hD hS (lv_sub hl [1, 2, 3, 4, 0] rfl)
                                                                · rw [if_neg d29] at hf
                                                                  refine lv_tableOut (tgt := 1796) hx hb dL_law_39 (by have n0 := lv_neT d0 (a := 0) (by decide); have n1 := lv_neT d1 (a := 1) (by decide); have n2 := lv_neT d2 (a := 2) (by decide); have n3 := lv_neT d3 (a := 3) (by decide); have n4 := lv_neT d4 (a := 4) (by decide); have n5 := lv_neT d5 (a := 5) (by decide); have n6 := lv_neT d6 (a := 6) (by decide); have n7 := lv_neT d7 (a := 7) (by decide); have n8 := lv_neT d8 (a := 8) (by decide); have n9 := lv_neT d9 (a := 9) (by decide); have n10 := lv_neT d10 (a := 10) (by decide); have n11 := lv_neT d11 (a := 11) (by decide); have n12 := lv_neT d12 (a := 12) (by decide); have n13 := lv_neT d13 (a := 13) (by decide); have n14 := lv_neT d14 (a := 14) (by decide); have n15 := lv_neT d15 (a := 15) (by decide); have n16 := lv_neT d16 (a := 16) (by decide); have n17 := lv_neT d17 (a := 17) (by decide); have n18 := lv_neT d18 (a := 18) (by decide); have n19 := lv_neT d19 (a := 19) (by decide); have n20 := lv_neT d20 (a := 20) (by decide); have n21 := lv_neT d21 (a := 21) (by decide); have n22 := lv_neT d22 (a := 22) (by decide); have n23 := lv_neT d23 (a := 23) (by decide); have n24 := lv_neT d24 (a := 24) (by decide); have n25 := lv_neT d25 (a := 25) (by decide); have n26 := lv_neT d26 (a := 26) (by decide); have n27 := lv_neT d27 (a := 27) (by decide); have n28 := lv_neT d28 (a := 28) (by decide); have n29 := lv_neT d29 (a := 29) (by decide); omega) (by decide) ?_
                                                                  obtain ⟨x4, ex4, hf⟩ := lt_some hf
                                                                  refine lv_iinc (v := x4) (lv' := [(4, .int x4), (0, .ref b), (1, .ref (a0 0)), (2, .ref (a12 0)), (3, .ref (a13 0))]) hx hb dL_law_1796 hl (k := 4) rfl (by rw [ex4]; rfl) (by decide) rfl (fun ls hl => ?_)
                                                                  refine lv_goto (tgt := 23) hx hb dL_law_1799 (by decide) ?_
                                                                  exact ih _ e1 (lz_l hf hz) c9 s9 (by omega) (by omega) H locs ls hP hD hS (lv_sub hl [1, 2, 3, 4, 0] rfl)
