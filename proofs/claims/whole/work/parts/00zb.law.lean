/-! the law: a turn of its loop, the loop -/
theorem now_0 : Now St_0 (upd (fun _ => (0:Int32)) 1 10) := by
  refine ⟨0, 0, by omega, ?_⟩
  rw [← E_empty (co := (10:Int32)) (pu := fun _ => 0) (gu := fun _ => 0) (bi := fun _ => 0) (aw := fun _ => 0) (ta := fun _ => 0) (ins := fun _ => 0) (pf := fun _ => 0) (po := fun _ => 0) (go := fun _ => 0) (sh := fun _ => 0) (ms := fun _ => 0) (de := fun _ => 0) (fun _ _ => rfl)]
  refine ⟨0, 10, 0, 0, _, _, _, _, _, _, _, _, _, _, _, _, rfl, rfl, by omega, rfl, ⟨10, by omega, by omega, rfl⟩, ?_⟩
  exact ⟨fun i hi => by omega, fun i hi => by omega, fun i hi => by omega, fun i hi => by omega, fun i hi => by omega, fun i hi => by omega, fun i hi => by omega, fun i hi => by omega, fun i hi => by omega⟩
theorem lw_0 : LwW (St_0, St_0, Rd_0, St_0, Rd_0, Pa_0, Tx_0, Sl_0, St_0, St_0, Md_0, (fun _ => (0 : Int64))) := by
  refine ⟨0, upd (fun _ => (0:Int32)) 1 10, fun _ => 0, 0, fun _ => 0, fun _ => 0, fun _ => 0, fun _ => 0, 0, fun _ => 0, fun _ => 0, 0, fun _ => 0, 0, 0, rfl, now_0, ⟨0, 0, by omega, by omega, rfl, rfl, rfl, fun j hj => by omega⟩, ⟨0, rfl, rfl, by omega, fun k hk => by omega⟩, ⟨rfl, fun j hj => Or.inl rfl, fun h => absurd h (by decide), fun h => absurd h (by decide)⟩, fun _ _ => rfl⟩
theorem turn {xs : Nat → Int32} {L a : Nat} (hL : L ≤ 2048) (ha : a + 4 ≤ L) (w : LwV) (h : LwW w) : ∃ w', b_law xs L (nI a, w) = some (.inl (nI (a + 4), w')) ∧ LwW w' := by
  obtain ⟨v1, v2, v3, t5, t6, v5, v6, v7, v8, v9, v10, v11⟩ := w
  have h : Lw v1 v5 v6 v7 v8 v9 v10 := h
  have c4 : ¬ Int32.ofNat L - (4:Int32) < nI a := fun q => by
    have q : nI L - nI 4 < nI a := q
    rw [nI_sub (by omega), nI_lti (by omega) (by omega)] at q
    omega
  have s4 : nI a + (4:Int32) = nI (a + 4) := q_add a 4
  have g4 : ∀ {B : Type} {k : Option B}, gi (nI a) L k = k := gi_ok (by omega) (by omega)
  have done : ∀ (o : Option LwV), (∃ w, o = some w ∧ LwW w) → ∃ w', bd o (fun (w9 : LwV) => lt (nI a + (4:Int32)) (fun (x4 : Int32) => some (Sum.inl (β := LwV) (x4, w9)))) = some (.inl (nI (a + 4), w')) ∧ LwW w' := fun o ⟨w, e, q⟩ => ⟨w, by rw [e, bd_s, lt_e, s4], q⟩
  unfold b_law
  rw [if_neg c4, g4, lt_e]
  generalize xs (nI a).toNatClampNeg &&& (31:Int32) = x3
  by_cases h0 : x3 = (0:Int32)
  · rw [if_pos h0]
    exact done _ (case_172 hL ha h)
  rw [if_neg h0]
  by_cases h1 : x3 = (1:Int32)
  · rw [if_pos h1]
    exact done _ (case_228 hL ha h)
  rw [if_neg h1]
  by_cases h2 : x3 = (2:Int32)
  · rw [if_pos h2]
    exact done _ (case_241 hL ha h)
  rw [if_neg h2]
  by_cases h3 : x3 = (3:Int32)
  · rw [if_pos h3]
    exact done _ (case_254 hL ha h)
  rw [if_neg h3]
  by_cases h4 : x3 = (4:Int32)
  · rw [if_pos h4]
    exact done _ (case_298 hL ha h)
  rw [if_neg h4]
  by_cases h5 : x3 = (5:Int32)
  · rw [if_pos h5]
    exact done _ (case_354 hL ha h)
  rw [if_neg h5]
  by_cases h6 : x3 = (6:Int32)
  · rw [if_pos h6]
    exact done _ (case_422 hL ha h)
  rw [if_neg h6]
  by_cases h7 : x3 = (7:Int32)
  · rw [if_pos h7]
    exact done _ (case_490 hL ha h)
  rw [if_neg h7]
  by_cases h8 : x3 = (8:Int32)
  · rw [if_pos h8]
    exact done _ (case_546 hL ha h)
  rw [if_neg h8]
  by_cases h9 : x3 = (9:Int32)
  · rw [if_pos h9]
    exact done _ (case_602 hL ha h)
  rw [if_neg h9]
  by_cases h10 : x3 = (10:Int32)
  · rw [if_pos h10]
    exact done _ (case_658 hL ha h)
  rw [if_neg h10]
  by_cases h11 : x3 = (11:Int32)
  · rw [if_pos h11]
    exact done _ (case_714 hL ha h)
  rw [if_neg h11]
  by_cases h12 : x3 = (12:Int32)
  · rw [if_pos h12]
    exact done _ (case_782 hL ha h)
  rw [if_neg h12]
  by_cases h13 : x3 = (13:Int32)
  · rw [if_pos h13]
    exact done _ (case_850 hL ha h)
  rw [if_neg h13]
  by_cases h14 : x3 = (14:Int32)
  · rw [if_pos h14]
    exact done _ (case_941 hL ha h)
  rw [if_neg h14]
  by_cases h15 : x3 = (15:Int32)
  · rw [if_pos h15]
    exact done _ (case_1009 hL ha h)
  rw [if_neg h15]
  by_cases h16 : x3 = (16:Int32)
  · rw [if_pos h16]
    exact done _ (case_1053 hL ha h)
  rw [if_neg h16]
  by_cases h17 : x3 = (17:Int32)
  · rw [if_pos h17]
    exact done _ (case_1109 hL ha h)
  rw [if_neg h17]
  by_cases h18 : x3 = (18:Int32)
  · rw [if_pos h18]
    exact done _ (case_1177 hL ha h)
  rw [if_neg h18]
  by_cases h19 : x3 = (19:Int32)
  · rw [if_pos h19]
    exact done _ (case_1221 hL ha h)
  rw [if_neg h19]
  by_cases h20 : x3 = (20:Int32)
  · rw [if_pos h20]
    exact done _ (case_1234 hL ha h)
  rw [if_neg h20]
  by_cases h21 : x3 = (21:Int32)
  · rw [if_pos h21]
    exact done _ (case_1247 hL ha h)
  rw [if_neg h21]
  by_cases h22 : x3 = (22:Int32)
  · rw [if_pos h22]
    exact done _ (case_1303 hL ha h)
  rw [if_neg h22]
  by_cases h23 : x3 = (23:Int32)
  · rw [if_pos h23]
    exact done _ (case_1359 hL ha h)
  rw [if_neg h23]
  by_cases h24 : x3 = (24:Int32)
  · rw [if_pos h24]
    exact done _ (case_1372 hL ha h)
  rw [if_neg h24]
  by_cases h25 : x3 = (25:Int32)
  · rw [if_pos h25]
    exact done _ (case_1428 hL ha h)
  rw [if_neg h25]
  by_cases h26 : x3 = (26:Int32)
  · rw [if_pos h26]
    exact done _ (case_1484 hL ha h)
  rw [if_neg h26]
  by_cases h27 : x3 = (27:Int32)
  · rw [if_pos h27]
    exact done _ (case_1584 hL ha h)
  rw [if_neg h27]
  by_cases h28 : x3 = (28:Int32)
  · rw [if_pos h28]
    exact done _ (case_1684 hL ha h)
  rw [if_neg h28]
  by_cases h29 : x3 = (29:Int32)
  · rw [if_pos h29]
    exact done _ (case_1740 hL ha h)
  rw [if_neg h29]
  exact ⟨(v1, v2, v3, t5, t6, v5, v6, v7, v8, v9, v10, v11), by rw [lt_e, s4], h⟩
theorem law_pure (xs : Nat → Int32) {L : Nat} (hL : L ≤ 2048) : ∃ e1, lp (b_law xs L) 513 ((0 : Int32), St_0, St_0, Rd_0, St_0, Rd_0, Pa_0, Tx_0, Sl_0, St_0, St_0, Md_0, (fun _ => (0 : Int64))) = some e1 := by
  have lo : One (lp (b_law xs L) 513 ((0 : Int32), St_0, St_0, Rd_0, St_0, Rd_0, Pa_0, Tx_0, Sl_0, St_0, St_0, Md_0, (fun _ => (0 : Int64)))) (fun _ => True) := by
    refine lp_one (fun n s => ∃ k w, s = (nI (4 * k), w) ∧ LwW w ∧ 4 * k ≤ 2048 ∧ n = 512 - k) _ ?_ (n := 512) ⟨0, _, rfl, lw_0, by omega, rfl⟩ (by omega)
    rintro n s ⟨k, w, rfl, h, hk, rfl⟩ J hJ
    by_cases q : 4 * k + 4 ≤ L
    · obtain ⟨w', e, h'⟩ := turn (xs := xs) hL q w h
      rw [e]
      exact hJ (512 - (k + 1)) _ (by omega) ⟨k + 1, w', by rw [show 4 * (k + 1) = 4 * k + 4 by omega], h', by omega, rfl⟩
    · have c4 : Int32.ofNat L - (4:Int32) < nI (4 * k) := by
        show nI L - nI 4 < nI (4 * k)
        by_cases q2 : L < 4
        · exact Int32.lt_of_lt_of_le (pk_sneg (by omega) q2) (nI_pos' (by omega))
        · rw [nI_sub (by omega), nI_lti (by omega) (by omega)]
          omega
      have e : b_law xs L (nI (4 * k), w) = some (.inr w) := by
        unfold b_law
        rw [if_pos c4]
      rw [e]
      exact trivial
  obtain ⟨e, e1, -⟩ := on_get lo
  exact ⟨e, e1⟩
