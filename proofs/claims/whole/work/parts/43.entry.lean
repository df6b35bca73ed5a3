set_option maxHeartbeats 4000000 in
theorem law_start {p : Program} {e : Env} {s : State} {m : MethodId} {below : List Frame} {meth : Method} {c : Code} (l : Launch) (hflags : l.flags = flags0) {b L : Nat} {xs : Nat → Int32} (hL : L ≤ 2048) (hpure : ∃ e1, lp (b_law xs L) 513 ((0 : Int32), St_0, St_0, Rd_0, Pa_0, Tx_0, Sl_0, St_0, St_0, Md_0, (fun _ => (0 : Int64))) = some e1) (C0 : lw_At p s m meth c b L xs) : W p l e room_1 s m #[Value.ref b] below meth c s.heap [] 0 0 (lw_Z below #[Value.ref b] s) (entryFrame m ([Value.ref b] : List Value).toArray 7) := by
  obtain ⟨hx, hb, hr, hml, hown, hts0, hX, hbl, hlocks, hgv⟩ := C0
  have hl0 : l.stackTraces = false := by
    unfold Launch.stackTraces
    rw [hflags]
    decide
  have hA : ∀ q : Nat, s.heap.size ≤ q → (fun q : Nat => s.heap.size ≤ q) q := fun _ h => h
  have hbA : ¬ (fun q : Nat => s.heap.size ≤ q) b := Nat.not_le.mpr hbl
  obtain ⟨G, hK⟩ := st_kk hts0
  have hTH := st_th hgv hts0
  have hNS := st_ns hts0
  have hts : ∀ w ∈ wsL_law, w.before #[Value.ref b] s = true := fun w h => hts0 w (wsL_law_in w h)
  have S : Ev p s m #[Value.ref b] meth c cL_law 7 (some .boolean) RL wsL_law := ⟨hx, hb, hml, hown, hts, hr, hlocks⟩
  have hS : va_S (fun q : Nat => s.heap.size ≤ q) s.heap s.heap [] := va_S.rf
  have hP : gP G [] s.heap := fun k q h => by simp at h
  have hD : gD (fun q : Nat => s.heap.size ≤ q) [] := ⟨fun i j p q h => by simp at h, fun k q h => by simp at h⟩
  have hl := lv_entry ([.ref b]) (n := 7) (Nat.le_of_ble_eq_true rfl)
  rw [lg_entry_eq]
  generalize (lg_sl ([.ref b]) ++ List.replicate (7 - (lg_sl ([.ref b])).length) Slot.unset).toArray = ls at hl ⊢
  have hl : lv_has ls 7 [(0, .ref b)] := hl
  refine g_newo (ci := 5) (fs := [.null, .null, .null, .null, .null, .null, .null, .null]) (C := RX5) (T := TX5) (N := 8) (cells' := 1) (slots' := 8) hx hb hts inlX5 tyX5 tyX5_ok hown (hts _ (List.mem_of_getElem? (i := 0) rfl)) (hts _ (List.mem_of_getElem? (i := 1) rfl)) (hts _ (List.mem_of_getElem? (i := 2) rfl)) hK hP hD hS hA rfl (fun j hj => by rcases (show j = 0 ∨ j = 1 ∨ j = 2 ∨ j = 3 ∨ j = 4 ∨ j = 5 ∨ j = 6 ∨ j = 7 by omega) with rfl | rfl | rfl | rfl | rfl | rfl | rfl | rfl <;> rfl) (Nat.le_of_ble_eq_true rfl) (Nat.le_of_ble_eq_true rfl) dL_law_0 rfl rfl (fun q1 H hP hD hS => ?_)
  have hP : gP G [[(q1, .inr (5, [.null, .null, .null, .null, .null, .null, .null, .null]))]] H := hP
  have hD : gD (fun q : Nat => s.heap.size ≤ q) [[(q1, .inr (5, [.null, .null, .null, .null, .null, .null, .null, .null]))]] := hD
  refine lv_dup hx hb dL_law_3 rfl ?_
  have hF0 := g_free (gc := [[(q1, .inr (5, [.null, .null, .null, .null, .null, .null, .null, .null]))]]) hD hS hA (is := [0]) rfl
  refine g_ctor0 S (As := []) (cells' := 245) (slots' := 3195) (c_X5_init l G q1) (cwI 0 hts gL_law_X5_init rfl rfl rfl (hts _ (List.mem_of_getElem? (i := 2) rfl)) (hts _ (List.mem_of_getElem? (i := 8) rfl)) (hts _ (List.mem_of_getElem? (i := 9) rfl)) rfl hd_X5_init.2 ⟨(Nat.le_of_ble_eq_true rfl), (Nat.le_of_ble_eq_true rfl)⟩) hNS hK hP hD hS hA hF0 rfl hl.1 rfl (Nat.le_of_ble_eq_true rfl) dL_law_4 ⟨(Nat.le_of_ble_eq_true rfl), (Nat.le_of_ble_eq_true rfl)⟩ rfl rfl (fun u hu H locs hP2 hD2 hS2 => ?_)
  obtain ⟨a0, a1, a2, a3, a4, a5, a6, a7, a8, a9, ha0, rfl⟩ := hu
  subst ha0
  have hP : gP G [maW a0 (a1 0) (a2 0) (a3 0) (a4 0) (a5 0 0) (a6 0) (a7 0) (a7 1), stW G a1 St_0, stW G a2 St_0, rdW G a3 Rd_0, scW a4 (a2 0) (a3 0), paW G a5 Pa_0, txW G a6 Tx_0, slW G a7 (a8 0) (a9 0) Sl_0, stW G a8 St_0, stW G a9 St_0] H := hP2
  have hD : gD (fun q : Nat => s.heap.size ≤ q) [maW a0 (a1 0) (a2 0) (a3 0) (a4 0) (a5 0 0) (a6 0) (a7 0) (a7 1), stW G a1 St_0, stW G a2 St_0, rdW G a3 Rd_0, scW a4 (a2 0) (a3 0), paW G a5 Pa_0, txW G a6 Tx_0, slW G a7 (a8 0) (a9 0) Sl_0, stW G a8 St_0, stW G a9 St_0] := hD2
  have hS := hS2
  refine lv_astore_n (lv' := [(1, .ref (a0 0)), (0, .ref b)]) hx hb dL_law_7 rfl hl (by decide) rfl (fun ls hl => ?_)
  refine g_newo (ci := 6) (fs := [.int 0, .null, .null, .int 0, .null, .null, .null, .null, .int 0, .null, .null, .int 0, .null, .int 0, .int 0]) (C := RX6) (T := TX6) (N := 15) (cells' := 246) (slots' := 3210) hx hb hts inlX6 tyX6 tyX6_ok hown (hts _ (List.mem_of_getElem? (i := 3) rfl)) (hts _ (List.mem_of_getElem? (i := 4) rfl)) (hts _ (List.mem_of_getElem? (i := 5) rfl)) hK hP hD hS hA rfl (fun j hj => by rcases (show j = 0 ∨ j = 1 ∨ j = 2 ∨ j = 3 ∨ j = 4 ∨ j = 5 ∨ j = 6 ∨ j = 7 ∨ j = 8 ∨ j = 9 ∨ j = 10 ∨ j = 11 ∨ j = 12 ∨ j = 13 ∨ j = 14 by omega) with rfl | rfl | rfl | rfl | rfl | rfl | rfl | rfl | rfl | rfl | rfl | rfl | rfl | rfl | rfl <;> rfl) (Nat.le_of_ble_eq_true rfl) (Nat.le_of_ble_eq_true rfl) dL_law_8 rfl rfl (fun q2 H hP hD hS => ?_)
  refine lv_dup hx hb dL_law_11 rfl ?_
  refine g_ctorI S (As := []) (cells' := 255) (slots' := 6311) (c_X6_init l G q2) (cwI 0 hts gL_law_X6_init rfl rfl rfl (hts _ (List.mem_of_getElem? (i := 5) rfl)) (hts _ (List.mem_of_getElem? (i := 76) rfl)) (hts _ (List.mem_of_getElem? (i := 77) rfl)) rfl hd_X6_init.2 ⟨(Nat.le_of_ble_eq_true rfl), (Nat.le_of_ble_eq_true rfl)⟩) hNS hK hP hD hS hA (is := [10]) rfl rfl (fun u hu => by obtain ⟨_, _, rfl⟩ := hu; rfl) rfl hl.1 rfl (Nat.le_of_ble_eq_true rfl) dL_law_12 ⟨(Nat.le_of_ble_eq_true rfl), (Nat.le_of_ble_eq_true rfl)⟩ rfl rfl (fun u hu H locs hP2 hD2 hS2 => ?_)
  obtain ⟨a10, ha10, rfl⟩ := hu
  subst ha10
  have hP : gP G [maW a0 (a1 0) (a2 0) (a3 0) (a4 0) (a5 0 0) (a6 0) (a7 0) (a7 1), stW G a1 St_0, stW G a2 St_0, rdW G a3 Rd_0, scW a4 (a2 0) (a3 0), paW G a5 Pa_0, txW G a6 Tx_0, slW G a7 (a8 0) (a9 0) Sl_0, stW G a8 St_0, stW G a9 St_0, mdW G a10 Md_0] H := hP2
  have hD : gD (fun q : Nat => s.heap.size ≤ q) [maW a0 (a1 0) (a2 0) (a3 0) (a4 0) (a5 0 0) (a6 0) (a7 0) (a7 1), stW G a1 St_0, stW G a2 St_0, rdW G a3 Rd_0, scW a4 (a2 0) (a3 0), paW G a5 Pa_0, txW G a6 Tx_0, slW G a7 (a8 0) (a9 0) Sl_0, stW G a8 St_0, stW G a9 St_0, mdW G a10 Md_0] := hD2
  have hS := hS2
  refine lv_astore_n (lv' := [(2, .ref (a10 0)), (1, .ref (a0 0)), (0, .ref b)]) hx hb dL_law_15 rfl hl (by decide) rfl (fun ls hl => ?_)
  refine lv_iconst (v := (1:Int32)) hx hb dL_law_16 (by decide) ?_
  refine g_newj (N' := 1) (cells' := 256) (slots' := 6312) hx hb (hts _ (List.mem_of_getElem? (i := 6) rfl)) hK hP hD hS hA (by decide) (by decide) (Nat.le_of_ble_eq_true rfl) (Nat.le_of_ble_eq_true rfl) (Nat.le_of_ble_eq_true rfl) dL_law_17 rfl rfl (fun q3 H hP hD hS => ?_)
  refine lv_astore_n (lv' := [(3, .ref q3), (2, .ref (a10 0)), (1, .ref (a0 0)), (0, .ref b)]) hx hb dL_law_19 rfl hl (by decide) rfl (fun ls hl => ?_)
  refine lv_iconst (v := (0:Int32)) hx hb dL_law_20 (by decide) ?_
  refine lv_istore (lv' := [(4, .int 0), (3, .ref q3), (2, .ref (a10 0)), (1, .ref (a0 0)), (0, .ref b)]) hx hb dL_law_21 hl (by decide) rfl (fun ls hl => ?_)
  obtain ⟨e1, he1⟩ := hpure
  exact w_law hl0 S hK hA hTH hX hbl hbA a0 a1 a2 a3 a4 a5 a6 a7 a8 a9 a10 (fun _ => q3) (fun q h => h) 513 _ e1 he1 256 6312 (Nat.le_of_ble_eq_true rfl) (Nat.le_of_ble_eq_true rfl) H locs ls hP hD hS (lv_sub hl [4, 3, 2, 1, 0] rfl)
