set_option maxHeartbeats 4000000 in
theorem law_start {p : Program} {e : Env} {s : State} {m : MethodId} {below : List Frame} {meth : Method} {c : Code} (l : Launch) {b L : Nat} {xs : Nat → Int32} (hpure : ∃ w e1, f_law_13 xs L St_0 St_0 Rd_0 Pa_0 (fun _ => (0 : Int32)) = some w ∧ lp (b_law xs L (w.2.2.2.2.2)) 8 ((0 : Int32), w.1, w.2.1, w.2.2.1, w.2.2.2.1, w.2.2.2.2.1) = some e1) (C0 : lw_At p s m meth c b L xs) : W p l e room_1 s m #[Value.ref b] below meth c s.heap [] 0 0 (lw_Z below #[Value.ref b] s) (entryFrame m ([Value.ref b] : List Value).toArray 11) := by
  obtain ⟨hx, hb, hr, hml, hown, hts0, hX, hbl, hlocks, hgv⟩ := C0
  have hA : ∀ q : Nat, s.heap.size ≤ q → (fun q : Nat => s.heap.size ≤ q) q := fun _ h => h
  have hbA : ¬ (fun q : Nat => s.heap.size ≤ q) b := Nat.not_le.mpr hbl
  obtain ⟨G, hK⟩ := st_kk hts0
  have hNS := st_ns hts0
  have hts : ∀ w ∈ wsL_law, w.before #[Value.ref b] s = true := fun w h => hts0 w (wsL_law_in w h)
  have S : Ev p s m #[Value.ref b] meth c cL_law 11 (some .boolean) RL wsL_law := ⟨hx, hb, hml, hown, hts, hr, hlocks⟩
  have hS : va_S (fun q : Nat => s.heap.size ≤ q) s.heap s.heap [] := va_S.rf
  have hP : gP G [] s.heap := fun k q h => by simp at h
  have hD : gD (fun q : Nat => s.heap.size ≤ q) [] := ⟨fun i j p q h => by simp at h, fun k q h => by simp at h⟩
  have hl := lv_entry ([.ref b]) (n := 11) (Nat.le_of_ble_eq_true rfl)
  rw [lg_entry_eq]
  generalize (lg_sl ([.ref b]) ++ List.replicate (11 - (lg_sl ([.ref b])).length) Slot.unset).toArray = ls at hl ⊢
  have hl : lv_has ls 11 [(0, .ref b)] := hl
  refine g_newo (ci := 5) (fs := [.null, .null, .null, .null, .null, .null, .null, .null]) (C := RX5) (T := TX5) (N := 8) (cells' := 1) (slots' := 8) hx hb hts inlX5 tyX5 tyX5_ok hown (hts _ (List.mem_append_left _ (List.mem_append_left _ (List.mem_append_left _ (List.mem_append_left _ (List.mem_append_left _ (List.mem_append_left _ (List.mem_append_left _ (List.mem_append_left _ (List.mem_append_left _ (List.mem_append_left _ (List.mem_append_left _ (List.mem_of_getElem? (i := 0) rfl))))))))))))) (hts _ (List.mem_append_left _ (List.mem_append_left _ (List.mem_append_left _ (List.mem_append_left _ (List.mem_append_left _ (List.mem_append_left _ (List.mem_append_left _ (List.mem_append_left _ (List.mem_append_left _ (List.mem_append_left _ (List.mem_append_left _ (List.mem_of_getElem? (i := 1) rfl))))))))))))) (hts _ (List.mem_append_left _ (List.mem_append_left _ (List.mem_append_left _ (List.mem_append_left _ (List.mem_append_left _ (List.mem_append_left _ (List.mem_append_left _ (List.mem_append_left _ (List.mem_append_left _ (List.mem_append_left _ (List.mem_append_left _ (List.mem_of_getElem? (i := 2) rfl))))))))))))) hK hP hD hS hA rfl (fun j hj => by rcases (show j = 0 ∨ j = 1 ∨ j = 2 ∨ j = 3 ∨ j = 4 ∨ j = 5 ∨ j = 6 ∨ j = 7 by omega) with rfl | rfl | rfl | rfl | rfl | rfl | rfl | rfl <;> rfl) (Nat.le_of_ble_eq_true rfl) (Nat.le_of_ble_eq_true rfl) dL_law_0 rfl rfl (fun q1 H hP hD hS => ?_)
  have hP : gP G [[(q1, .inr (5, [.null, .null, .null, .null, .null, .null, .null, .null]))]] H := hP
  have hD : gD (fun q : Nat => s.heap.size ≤ q) [[(q1, .inr (5, [.null, .null, .null, .null, .null, .null, .null, .null]))]] := hD
  refine lv_dup hx hb dL_law_3 rfl ?_
  have hF0 := g_free (gc := [[(q1, .inr (5, [.null, .null, .null, .null, .null, .null, .null, .null]))]]) hD hS hA (is := [0]) rfl
  refine g_ctor0 S (As := []) (cells' := 261) (slots' := 3383) (c_X5_init l G q1) (cwI 0 hts gL_law_X5_init rfl rfl rfl (hts _ (List.mem_append_left _ (List.mem_append_left _ (List.mem_append_left _ (List.mem_append_left _ (List.mem_append_left _ (List.mem_append_left _ (List.mem_append_left _ (List.mem_append_left _ (List.mem_append_left _ (List.mem_append_left _ (List.mem_append_left _ (List.mem_of_getElem? (i := 2) rfl))))))))))))) (hts _ (List.mem_append_left _ (List.mem_append_left _ (List.mem_append_left _ (List.mem_append_left _ (List.mem_append_left _ (List.mem_append_left _ (List.mem_append_left _ (List.mem_append_left _ (List.mem_append_left _ (List.mem_append_left _ (List.mem_append_left _ (List.mem_of_getElem? (i := 4) rfl))))))))))))) (hts _ (List.mem_append_left _ (List.mem_append_left _ (List.mem_append_left _ (List.mem_append_left _ (List.mem_append_left _ (List.mem_append_left _ (List.mem_append_left _ (List.mem_append_left _ (List.mem_append_left _ (List.mem_append_left _ (List.mem_append_left _ (List.mem_of_getElem? (i := 5) rfl))))))))))))) rfl hd_X5_init.2 ⟨(Nat.le_of_ble_eq_true rfl), (Nat.le_of_ble_eq_true rfl)⟩) hNS hK hP hD hS hA hF0 rfl hl.1 rfl (Nat.le_of_ble_eq_true rfl) dL_law_4 ⟨(Nat.le_of_ble_eq_true rfl), (Nat.le_of_ble_eq_true rfl)⟩ rfl rfl (fun u hu H locs hP2 hD2 hS2 => ?_)
  obtain ⟨a0, a1, a2, a3, a4, a5, a6, a7, a8, a9, a10, a11, ha0, rfl⟩ := hu
  subst ha0
  have hP : gP G [maW a0 (a1 0) (a2 0) (a3 0) (a4 0) (a7 0 0) (a8 0) (a9 0) (a9 1), stW G a1 St_0, stW G a2 St_0, rdW G a3 Rd_0, scW a4 (a5 0) (a6 0), stW G a5 St_0, rdW G a6 Rd_0, paW G a7 Pa_0, txW G a8 Tx_0, slW G a9 (a10 0) (a11 0) Sl_0, stW G a10 St_0, stW G a11 St_0] H := hP2
  have hD : gD (fun q : Nat => s.heap.size ≤ q) [maW a0 (a1 0) (a2 0) (a3 0) (a4 0) (a7 0 0) (a8 0) (a9 0) (a9 1), stW G a1 St_0, stW G a2 St_0, rdW G a3 Rd_0, scW a4 (a5 0) (a6 0), stW G a5 St_0, rdW G a6 Rd_0, paW G a7 Pa_0, txW G a8 Tx_0, slW G a9 (a10 0) (a11 0) Sl_0, stW G a10 St_0, stW G a11 St_0] := hD2
  have hS := hS2
  refine lv_astore_n (lv' := [(1, .ref (a0 0)), (0, .ref b)]) hx hb dL_law_7 rfl hl (by decide) rfl (fun ls hl => ?_)
  refine lv_bipush (v := (16:Int32)) hx hb dL_law_8 (by decide) ?_
  refine g_newi (N' := 16) (cells' := 262) (slots' := 3399) hx hb (hts _ (List.mem_append_left _ (List.mem_append_left _ (List.mem_append_left _ (List.mem_append_left _ (List.mem_append_left _ (List.mem_append_left _ (List.mem_append_left _ (List.mem_append_left _ (List.mem_append_left _ (List.mem_append_left _ (List.mem_append_left _ (List.mem_of_getElem? (i := 3) rfl))))))))))))) hK hP hD hS hA (by decide) (by decide) (Nat.le_of_ble_eq_true rfl) (Nat.le_of_ble_eq_true rfl) (Nat.le_of_ble_eq_true rfl) dL_law_10 rfl rfl (fun q3 H hP hD hS => ?_)
  refine lv_astore_n (lv' := [(2, .ref q3), (1, .ref (a0 0)), (0, .ref b)]) hx hb dL_law_12 rfl hl (by decide) rfl (fun ls hl => ?_)
  have hP : gP G [maW a0 (a1 0) (a2 0) (a3 0) (a4 0) (a7 0 0) (a8 0) (a9 0) (a9 1), stW G a1 St_0, stW G a2 St_0, rdW G a3 Rd_0, paW G a7 Pa_0, arW G (fun _ => q3) (fun _ => (0 : Int32))] H := gP_sub (is := [0, 1, 2, 3, 7, 12]) hP rfl
  have hD : gD (fun q : Nat => s.heap.size ≤ q) [maW a0 (a1 0) (a2 0) (a3 0) (a4 0) (a7 0 0) (a8 0) (a9 0) (a9 1), stW G a1 St_0, stW G a2 St_0, rdW G a3 Rd_0, paW G a7 Pa_0, arW G (fun _ => q3) (fun _ => (0 : Int32))] := gD_sub (is := [0, 1, 2, 3, 7, 12]) hD rfl rfl
  obtain ⟨w, e1, hw, he1⟩ := hpure
  refine w_law_13 S hK hA hX hbl hbA a0 a1 a2 a3 a4 a5 a6 a7 a8 a9 a10 a11 (fun _ => q3) _ _ _ _ _ hw hP hD hS (lv_sub hl [2, 1, 0] rfl) (fun H locs ls hP hD hS hl => ?_)
  refine lv_iconst (v := (0:Int32)) hx hb dL_law_71 (by decide) ?_
  refine lv_istore (lv' := [(5, .int 0), (0, .ref b), (1, .ref (a0 0)), (2, .ref q3), (3, .int (w.2.2.2.2.2))]) hx hb dL_law_72 hl (by decide) rfl (fun ls hl => ?_)
  exact w_law S hK hA hX hbl hbA a0 a1 a2 a3 a4 a5 a6 a7 a8 a9 a10 a11 (fun _ => q3) (fun q h => h) _ 8 _ e1 he1 H locs ls hP hD hS (lv_sub hl [1, 2, 3, 4, 0] rfl)
