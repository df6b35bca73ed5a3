/-! the rate: the bits of a float, found by doubling and halving -/
theorem gnan_ok {β : Type} {r : UInt32} {k : Option β} (h : r &&& 0x7fffffff ≤ 0x7f800000) : gnan r k = k := if_pos h
theorem k01 : ((0:Int32) ≤ 1) = True := by simp
theorem k0m : ((0:Int32) ≤ -1) = False := by simp
theorem km0 : ((-1:Int32) < 0) = True := by simp
theorem k00 : ((0:Int32) < 0) = False := by simp
theorem k10 : ((1:Int32) < 0) = False := by simp
theorem kp0 : ((0:Int32) < 1) = True := by simp
theorem bits_loop {x : UInt32} {c K : Nat} (h : Pg x c K) (hK : K ≤ 41) : One (lp b_X5_bitsOf_16 FU (x, (150:Int32), (0:Int32))) (fun e => ∃ y k, e = (y, nI (150 - K), k) ∧ Pg y c 0) := by
  refine lp_one (fun n s => ∃ y k, s = (y, nI (150 - k), nI k) ∧ Pg y c n ∧ k + n = K) _ ?_ (n := K) ⟨x, 0, rfl, h, by omega⟩ (FU_gt (by omega))
  rintro n s ⟨y, k, rfl, hy, hk⟩ J hJ
  have c1 := fl_cmp hy (R := 0) fl_cb .g
  cases n with
  | zero =>
    have e : k = K := by omega
    subst e
    have : b_X5_bitsOf_16 (y, nI (150 - k), nI k) = some (.inr (y, nI (150 - k), nI k)) := by
      rcases c1.2 (by omega) with w | w <;> simp (disch := omega) only [b_X5_bitsOf_16, le126, show ¬ 126 ≤ k by omega, lt_e, w, zle, k01, ↓reduceIte]
    rw [this]
    exact ⟨y, nI k, rfl, hy⟩
  | succ n =>
    have w := c1.1 (by omega)
    have h2 := fl_mul2 hy
    have e1 : nI (150 - k) + (-1:Int32) = nI (150 - (k + 1)) := by
      rw [show 150 - k = (150 - (k + 1)) + 1 by omega]; exact pk_m1 _
    have : b_X5_bitsOf_16 (y, nI (150 - k), nI k) = some (.inl (FP.fmul y FP.fconst2, nI (150 - (k + 1)), nI (k + 1))) := by
      simp (disch := omega) only [b_X5_bitsOf_16, le126, show ¬ 126 ≤ k by omega, lt_e, w, k0m, gnan_ok (fl_num h2), e1, nI_s1, ↓reduceIte]
    rw [this]
    exact hJ n _ (by omega) ⟨_, k + 1, rfl, h2, by omega⟩
theorem half_loop {x : UInt32} {c K : Nat} (h : Pg x c K) (hK : K ≤ 41) : One (lp b_X6_bitsOf_13 FU (x, (127:Int32))) (fun e => ∃ y E Q, e = (y, nI E) ∧ Pg y c Q ∧ E + K = 127 + Q ∧ 23 ≤ Q ∧ Q ≤ 41) := by
  refine lp_one (fun n s => ∃ y E Q, s = (y, nI E) ∧ Pg y c Q ∧ E + K = 127 + Q ∧ Q ≤ 41 ∧ n = 23 - Q) _ ?_ (n := 23 - K) ⟨x, 127, K, rfl, h, by omega, hK, rfl⟩ (FU_gt (by omega))
  rintro n s ⟨y, E, Q, rfl, hy, he, hQ, rfl⟩ J hJ
  have c1 := fl_cmp hy (R := 22) fl_c2 .l
  by_cases q : 22 < Q
  · have w := c1.1 q
    have : b_X6_bitsOf_13 (y, nI E) = some (.inr (y, nI E)) := by
      simp only [b_X6_bitsOf_13, w, km0, ↓reduceIte]
    rw [this]
    exact ⟨y, E, Q, rfl, hy, he, by omega, hQ⟩
  · have h2 := fl_div2 hy (by omega)
    have : b_X6_bitsOf_13 (y, nI E) = some (.inl (FP.fdiv y FP.fconst2, nI (E + 1))) := by
      rcases c1.2 (by omega) with w | w <;> simp only [b_X6_bitsOf_13, w, k00, k10, gnan_ok (fl_num h2), lt_e, nI_s1, ↓reduceIte]
    rw [this]
    exact hJ (23 - (Q + 1)) _ (by omega) ⟨_, E + 1, Q + 1, rfl, h2, by omega, by omega, rfl⟩
theorem twice_loop {x : UInt32} {c E0 Q0 K : Nat} (h : Pg x c Q0) (hE : E0 + K = 127 + Q0) (hK : K ≤ 41) (hQ : 23 ≤ Q0) (hQ2 : Q0 ≤ 41) : One (lp b_X6_bitsOf_29 FU (x, nI E0)) (fun e => ∃ y, e = (y, nI (150 - K)) ∧ Pg y c 23) := by
  refine lp_one (fun n s => ∃ y E Q, s = (y, nI E) ∧ Pg y c Q ∧ E + K = 127 + Q ∧ 23 ≤ Q ∧ n = Q - 23) _ ?_ (n := Q0 - 23) ⟨x, E0, Q0, rfl, h, hE, hQ, rfl⟩ (FU_gt (by omega))
  rintro n s ⟨y, E, Q, rfl, hy, he, hQ, rfl⟩ J hJ
  have c1 := fl_cmp hy (R := 23) fl_c1 .g
  by_cases q : 23 < Q
  · have w := c1.1 q
    obtain ⟨Q, rfl⟩ : ∃ Q', Q = Q' + 1 := ⟨Q - 1, by omega⟩
    obtain ⟨E, rfl⟩ : ∃ E', E = E' + 1 := ⟨E - 1, by omega⟩
    have h2 := fl_mul2 hy
    have : b_X6_bitsOf_29 (y, nI (E + 1)) = some (.inl (FP.fmul y FP.fconst2, nI E)) := by
      simp only [b_X6_bitsOf_29, w, k0m, gnan_ok (fl_num h2), lt_e, pk_m1, ↓reduceIte]
    rw [this]
    exact hJ (Q - 23) _ (by omega) ⟨_, E, Q, rfl, h2, by omega, by omega, rfl⟩
  · have e : Q = 23 := by omega
    subst e
    have e : E = 150 - K := by omega
    subst e
    have : b_X6_bitsOf_29 (y, nI (150 - K)) = some (.inr (y, nI (150 - K))) := by
      rcases c1.2 (by omega) with w | w <;> simp only [b_X6_bitsOf_29, w, zle, k01, ↓reduceIte]
    rw [this]
    exact ⟨y, rfl, hy⟩
theorem shl23 : ∀ E : Fin 256, nI E.1 <<< ((23:Int32) &&& 31) = nI E.1 * (8388608:Int32) := by decide +kernel
theorem bits_both {x : UInt32} {c K : Nat} (h : Pg x c K) (hK : K ≤ 41) : ∃ a, f_X5_bitsOf x = some (a, ()) ∧ f_X6_bitsOf x = some (a, ()) := by
  obtain ⟨e, e1, y, k, rfl, hy⟩ := on_get (bits_loop h hK)
  obtain ⟨f, f1, y1, E, Q, rfl, hy1, he, hq1, hq2⟩ := on_get (half_loop h hK)
  obtain ⟨g, g1, y2, rfl, hy2⟩ := on_get (twice_loop hy1 he hK hq1 hq2)
  have h3 := fl_mulb hy2
  refine ⟨nI (150 - K) * (8388608:Int32) + (nI c - (8388608:Int32)), ?_, ?_⟩
  · simp only [f_X5_bitsOf, fl_pos h, kp0, e1, bd_s, lt_e, fl_toI hy, shl23 ⟨150 - K, by omega⟩, ↓reduceIte]
  · simp only [f_X6_bitsOf, fl_pos h, o_ne, f1, g1, bd_s, lt_e, gnan_ok (fl_num h3), fl_toI h3, ↓reduceIte]
theorem bits_zero {x : UInt32} (h : FP.Core.val32 x = FP.Core.Datum.fin false 0 (-149)) : f_X5_bitsOf x = some (0, ()) ∧ f_X6_bitsOf x = some (0, ()) := by
  constructor
  · simp only [f_X5_bitsOf, fl_z h, k00, ↓reduceIte]
  · simp only [f_X6_bitsOf, fl_z h, ↓reduceIte]
theorem rate_both {g p : Nat} (hg : g ≤ 131072) (hp : 1 ≤ p) (hp2 : p ≤ 131072) : ∃ a, FP.fdiv (FP.i2f (nI g)) (FP.i2f (nI p)) &&& 0x7fffffff ≤ 0x7f800000 ∧ f_X5_bitsOf (FP.fdiv (FP.i2f (nI g)) (FP.i2f (nI p))) = some (a, ()) ∧ f_X6_bitsOf (FP.fdiv (FP.i2f (nI g)) (FP.i2f (nI p))) = some (a, ()) := by
  by_cases h0 : g = 0
  · subst h0
    have h := fl_zero hp hp2
    exact ⟨0, fl_ok (by rw [h]; exact fun q => FP.Core.Datum.noConfusion q), (bits_zero h).1, (bits_zero h).2⟩
  · obtain ⟨c, Q, h, q1, q2⟩ := fl_div (show 1 ≤ g by omega) hg hp hp2
    obtain ⟨a, a1, a2⟩ := bits_both h q2
    exact ⟨a, fl_num h, a1, a2⟩
section RATE
variable {th : Int32} {z past : Nat → Int32} {pm : Int32} {sl sv sp tx : Nat → Int32} {ty : Int32} {hp mi : Nat → Int32} {pot : Int32} {rd : Nat → Int32} {spt wr : Int32}
theorem ask_rate {c m : Nat} {v : StV} (h : Gs c m v z) (hm : m ≤ 99) (i : Int32) : Two (f_X5_rate v i) (f_X6_rate (th, z, past, pm, sl, sv, sp, tx, ty, hp, mi, pot, rd, spt, wr) i) (Ans (fun s k => s = IOB ∧ k = 1) (fun (_ : Unit) q => ∃ t, q = (t, z, past, pm, sl, sv, sp, tx, ty, hp, mi, pot, rd, spt, wr))) := by
  have hc := h.cnt.1
  rcases mem_or i hc with ⟨a, ha, rfl⟩ | ha
  · obtain ⟨a1, a2, -⟩ := h.yes (th := th) (past := past) (pm := pm) (sl := sl) (sv := sv) (sp := sp) (tx := tx) (ty := ty) (hp := hp) (mi := mi) (pot := pot) (rd := rd) (spt := spt) (wr := wr) ha
    obtain ⟨mo, co, bo, gv, pu, gu, bi, aw, ta, ins, pf, po, go, sh, ms, de, rfl, rfl, ok⟩ := h
    obtain ⟨-, -, -, -, -, -, -, -, hpf, hpo, hgo, hsh⟩ := ok
    obtain ⟨n1, h1, e1⟩ := hgo a ha
    obtain ⟨n2, h2, e2⟩ := hsh a ha
    obtain ⟨n3, h3, e3⟩ := hpf a ha
    obtain ⟨n4, h4, e4⟩ := hpo a ha
    by_cases h0 : n3 + n4 = 0
    · have hz : nI (n3 + n4) = (0:Int32) := by rw [h0]; rfl
      refine tw_mk (a := .inl ((0:Int32), ())) (b := ((0:Int32), (0, (E c mo co bo gv pu gu bi aw ta ins pf po go sh ms de), past, pm, sl, sv, sp, tx, ty, hp, mi, pot, rd, spt, wr))) ?_ ?_ ⟨rfl, rfl, 0, rfl⟩
      · rw [f_X5_rate, a1]
        simp (disch := omega) only [bx_l, St_count, St_month, St_contribution, St_box, St_given, St_purse, St_guarantor, St_bid, St_away, St_taken, St_inside, St_paidForItself, St_paidForOthers, St_gotOfPot, St_shares, St_misses, St_debt, St_count_s, St_month_s, St_contribution_s, St_box_s, St_given_s, St_purse_s, St_guarantor_s, St_bid_s, St_away_s, St_taken_s, St_inside_s, St_paidForItself_s, St_paidForOthers_s, St_gotOfPot_s, St_shares_s, St_misses_s, St_debt_s, Rd_paid, Rd_missing, Rd_pence, Rd_paid_s, Rd_missing_s, Rd_pence_s, Md_thrown, Md_z, Md_past, Md_pastMany, Md_slots, Md_isSaved, Md_spare, Md_text, Md_typed, Md_hasPaid, Md_misses, Md_potNow, Md_read, Md_spot, Md_wrong, Md_thrown_s, Md_z_s, Md_past_s, Md_pastMany_s, Md_slots_s, Md_isSaved_s, Md_spare_s, Md_text_s, Md_typed_s, Md_hasPaid_s, Md_misses_s, Md_potNow_s, Md_read_s, Md_spot_s, Md_wrong_s, mul8, mul8r, lt_e, bd_s, gi_ok, gz2, gz8, gz40, q_add, nI_s1, nI_clamp, upd_same, nar0, nar1, c0, c1, c2, c3, c4, g0_157, g1_157, g2_157, g3_157, g4_157, g0_1, a5, a13, a21, a29, a37, a45, a53, a61, a69, a77, a85, a93, e1, e2, e3, e4, hz, ↓reduceIte]
      · rw [f_X6_rate, a2]
        simp (disch := omega) only [bd_s, lt_e, St_count, St_month, St_contribution, St_box, St_given, St_purse, St_guarantor, St_bid, St_away, St_taken, St_inside, St_paidForItself, St_paidForOthers, St_gotOfPot, St_shares, St_misses, St_debt, St_count_s, St_month_s, St_contribution_s, St_box_s, St_given_s, St_purse_s, St_guarantor_s, St_bid_s, St_away_s, St_taken_s, St_inside_s, St_paidForItself_s, St_paidForOthers_s, St_gotOfPot_s, St_shares_s, St_misses_s, St_debt_s, Rd_paid, Rd_missing, Rd_pence, Rd_paid_s, Rd_missing_s, Rd_pence_s, Md_thrown, Md_z, Md_past, Md_pastMany, Md_slots, Md_isSaved, Md_spare, Md_text, Md_typed, Md_hasPaid, Md_misses, Md_potNow, Md_read, Md_spot, Md_wrong, Md_thrown_s, Md_z_s, Md_past_s, Md_pastMany_s, Md_slots_s, Md_isSaved_s, Md_spare_s, Md_text_s, Md_typed_s, Md_hasPaid_s, Md_misses_s, Md_potNow_s, Md_read_s, Md_spot_s, Md_wrong_s, mul8, mul8r, lt_e, bd_s, gi_ok, gz2, gz8, gz40, q_add, nI_s1, nI_clamp, upd_same, nar0, nar1, c0, c1, c2, c3, c4, g0_157, g1_157, g2_157, g3_157, g4_157, g0_1, a5, a13, a21, a29, a37, a45, a53, a61, a69, a77, a85, a93, E_0, E_1, E_2, E_3, E_4, E_pu, E_gu, E_bi, E_aw, E_ta, E_ins, E_pf, E_po, E_go, E_sh, E_ms, E_de, o_ne, zle, e1, e2, e3, e4, hz, ↓reduceIte]
    · have hz : ¬ nI (n3 + n4) = (0:Int32) := fun q => h0 ((eq0 (by omega)).mp q)
      obtain ⟨x, x0, x1, x2⟩ := rate_both (g := n1 + n2) (p := n3 + n4) (by omega) (by omega) (by omega)
      refine tw_mk (a := .inl (x, ())) (b := (x, (0, (E c mo co bo gv pu gu bi aw ta ins pf po go sh ms de), past, pm, sl, sv, sp, tx, ty, hp, mi, pot, rd, spt, wr))) ?_ ?_ ⟨rfl, rfl, 0, rfl⟩
      · rw [f_X5_rate, a1]
        simp (disch := omega) only [bx_l, St_count, St_month, St_contribution, St_box, St_given, St_purse, St_guarantor, St_bid, St_away, St_taken, St_inside, St_paidForItself, St_paidForOthers, St_gotOfPot, St_shares, St_misses, St_debt, St_count_s, St_month_s, St_contribution_s, St_box_s, St_given_s, St_purse_s, St_guarantor_s, St_bid_s, St_away_s, St_taken_s, St_inside_s, St_paidForItself_s, St_paidForOthers_s, St_gotOfPot_s, St_shares_s, St_misses_s, St_debt_s, Rd_paid, Rd_missing, Rd_pence, Rd_paid_s, Rd_missing_s, Rd_pence_s, Md_thrown, Md_z, Md_past, Md_pastMany, Md_slots, Md_isSaved, Md_spare, Md_text, Md_typed, Md_hasPaid, Md_misses, Md_potNow, Md_read, Md_spot, Md_wrong, Md_thrown_s, Md_z_s, Md_past_s, Md_pastMany_s, Md_slots_s, Md_isSaved_s, Md_spare_s, Md_text_s, Md_typed_s, Md_hasPaid_s, Md_misses_s, Md_potNow_s, Md_read_s, Md_spot_s, Md_wrong_s, mul8, mul8r, lt_e, bd_s, gi_ok, gz2, gz8, gz40, q_add, nI_s1, nI_clamp, upd_same, nar0, nar1, c0, c1, c2, c3, c4, g0_157, g1_157, g2_157, g3_157, g4_157, g0_1, a5, a13, a21, a29, a37, a45, a53, a61, a69, a77, a85, a93, e1, e2, e3, e4, hz, gnan_ok x0, x1, ↓reduceIte]
      · rw [f_X6_rate, a2]
        simp (disch := omega) only [bd_s, lt_e, St_count, St_month, St_contribution, St_box, St_given, St_purse, St_guarantor, St_bid, St_away, St_taken, St_inside, St_paidForItself, St_paidForOthers, St_gotOfPot, St_shares, St_misses, St_debt, St_count_s, St_month_s, St_contribution_s, St_box_s, St_given_s, St_purse_s, St_guarantor_s, St_bid_s, St_away_s, St_taken_s, St_inside_s, St_paidForItself_s, St_paidForOthers_s, St_gotOfPot_s, St_shares_s, St_misses_s, St_debt_s, Rd_paid, Rd_missing, Rd_pence, Rd_paid_s, Rd_missing_s, Rd_pence_s, Md_thrown, Md_z, Md_past, Md_pastMany, Md_slots, Md_isSaved, Md_spare, Md_text, Md_typed, Md_hasPaid, Md_misses, Md_potNow, Md_read, Md_spot, Md_wrong, Md_thrown_s, Md_z_s, Md_past_s, Md_pastMany_s, Md_slots_s, Md_isSaved_s, Md_spare_s, Md_text_s, Md_typed_s, Md_hasPaid_s, Md_misses_s, Md_potNow_s, Md_read_s, Md_spot_s, Md_wrong_s, mul8, mul8r, lt_e, bd_s, gi_ok, gz2, gz8, gz40, q_add, nI_s1, nI_clamp, upd_same, nar0, nar1, c0, c1, c2, c3, c4, g0_157, g1_157, g2_157, g3_157, g4_157, g0_1, a5, a13, a21, a29, a37, a45, a53, a61, a69, a77, a85, a93, E_0, E_1, E_2, E_3, E_4, E_pu, E_gu, E_bi, E_aw, E_ta, E_ins, E_pf, E_po, E_go, E_sh, E_ms, E_de, o_ne, zle, e1, e2, e3, e4, hz, gnan_ok x0, x2, ↓reduceIte]
  · obtain ⟨a1, a2, -⟩ := h.no (th := th) (past := past) (pm := pm) (sl := sl) (sv := sv) (sp := sp) (tx := tx) (ty := ty) (hp := hp) (mi := mi) (pot := pot) (rd := rd) (spt := spt) (wr := wr) ha
    refine tw_mk (a := .inr (IOB, ())) (b := ((0:Int32), (1, z, past, pm, sl, sv, sp, tx, ty, hp, mi, pot, rd, spt, wr))) ?_ ?_ ⟨1, ⟨rfl, rfl⟩, rfl, 1, rfl⟩
    · simp only [f_X5_rate, a1, bx_r]
    · rw [f_X6_rate, a2]
      simp only [bd_s, lt_e, St_count, St_month, St_contribution, St_box, St_given, St_purse, St_guarantor, St_bid, St_away, St_taken, St_inside, St_paidForItself, St_paidForOthers, St_gotOfPot, St_shares, St_misses, St_debt, St_count_s, St_month_s, St_contribution_s, St_box_s, St_given_s, St_purse_s, St_guarantor_s, St_bid_s, St_away_s, St_taken_s, St_inside_s, St_paidForItself_s, St_paidForOthers_s, St_gotOfPot_s, St_shares_s, St_misses_s, St_debt_s, Rd_paid, Rd_missing, Rd_pence, Rd_paid_s, Rd_missing_s, Rd_pence_s, Md_thrown, Md_z, Md_past, Md_pastMany, Md_slots, Md_isSaved, Md_spare, Md_text, Md_typed, Md_hasPaid, Md_misses, Md_potNow, Md_read, Md_spot, Md_wrong, Md_thrown_s, Md_z_s, Md_past_s, Md_pastMany_s, Md_slots_s, Md_isSaved_s, Md_spare_s, Md_text_s, Md_typed_s, Md_hasPaid_s, Md_misses_s, Md_potNow_s, Md_read_s, Md_spot_s, Md_wrong_s, ole, ↓reduceIte]
end RATE
