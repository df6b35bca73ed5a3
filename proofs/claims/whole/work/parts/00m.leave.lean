/-! leaving; the slots -/
section LEAVE
variable {th : Int32} {z past : Nat → Int32} {pm : Int32} {sl sv sp tx : Nat → Int32} {ty : Int32} {hp mi : Nat → Int32} {pot : Int32} {rd : Nat → Int32} {spt wr : Int32}
variable {c m : Nat} {pa : PaV} {v : StV}
theorem Gs.gain (g : Gs c m v z) {a : Nat} (ha : a < c) : ∃ y, f_X3_gainOfGoing v (nI a) = some (y, ()) ∧ ∀ (th : Int32) (past : Nat → Int32) (pm : Int32) (sl sv sp tx : Nat → Int32) (ty : Int32) (hp mi : Nat → Int32) (pot : Int32) (rd : Nat → Int32) (spt wr : Int32), f_X6_getsAtLeave (th, z, past, pm, sl, sv, sp, tx, ty, hp, mi, pot, rd, spt, wr) (nI a) = some (y, ()) := by
  have hw := fun th past pm sl sv sp tx ty hp mi pot rd spt wr => g.waiting (th := th) (past := past) (pm := pm) (sl := sl) (sv := sv) (sp := sp) (tx := tx) (ty := ty) (hp := hp) (mi := mi) (pot := pot) (rd := rd) (spt := spt) (wr := wr)
  obtain ⟨k, -, hk, -⟩ := g.waiting (th := 0) (past := fun _ => 0) (pm := 0) (sl := fun _ => 0) (sv := fun _ => 0) (sp := fun _ => 0) (tx := fun _ => 0) (ty := 0) (hp := fun _ => 0) (mi := fun _ => 0) (pot := 0) (rd := fun _ => 0) (spt := 0) (wr := 0)
  obtain ⟨mo, co, bo, gv, pu, gu, bi, aw, ta, ins, pf, po, go, sh, ms, de, rfl, rfl, ok⟩ := g
  obtain ⟨hc, -, -, -, -, -, ht, -⟩ := ok
  rcases ht a ha with e | e
  · refine ⟨if bo < pf a / (2:Int32) then bo else pf a / (2:Int32), ?_, ?_⟩
    · simp (disch := omega) only [f_X3_gainOfGoing, St_count, St_month, St_contribution, St_box, St_given, St_purse, St_guarantor, St_bid, St_away, St_taken, St_inside, St_paidForItself, St_paidForOthers, St_gotOfPot, St_shares, St_misses, St_debt, St_count_s, St_month_s, St_contribution_s, St_box_s, St_given_s, St_purse_s, St_guarantor_s, St_bid_s, St_away_s, St_taken_s, St_inside_s, St_paidForItself_s, St_paidForOthers_s, St_gotOfPot_s, St_shares_s, St_misses_s, St_debt_s, Rd_paid, Rd_missing, Rd_pence, Rd_paid_s, Rd_missing_s, Rd_pence_s, Md_thrown, Md_z, Md_past, Md_pastMany, Md_slots, Md_isSaved, Md_spare, Md_text, Md_typed, Md_hasPaid, Md_misses, Md_potNow, Md_read, Md_spot, Md_wrong, Md_thrown_s, Md_z_s, Md_past_s, Md_pastMany_s, Md_slots_s, Md_isSaved_s, Md_spare_s, Md_text_s, Md_typed_s, Md_hasPaid_s, Md_misses_s, Md_potNow_s, Md_read_s, Md_spot_s, Md_wrong_s, mul8, mul8r, lt_e, bd_s, gi_ok, gz2, gz8, gz40, q_add, nI_s1, nI_clamp, upd_same, nar0, nar1, c0, c1, c2, c3, c4, g0_157, g1_157, g2_157, g3_157, g4_157, g0_1, a5, a13, a21, a29, a37, a45, a53, a61, a69, a77, a85, a93, e, ↓reduceIte]
    · intro th past pm sl sv sp tx ty hp mi pot rd spt wr
      simp (disch := omega) only [f_X6_getsAtLeave, St_count, St_month, St_contribution, St_box, St_given, St_purse, St_guarantor, St_bid, St_away, St_taken, St_inside, St_paidForItself, St_paidForOthers, St_gotOfPot, St_shares, St_misses, St_debt, St_count_s, St_month_s, St_contribution_s, St_box_s, St_given_s, St_purse_s, St_guarantor_s, St_bid_s, St_away_s, St_taken_s, St_inside_s, St_paidForItself_s, St_paidForOthers_s, St_gotOfPot_s, St_shares_s, St_misses_s, St_debt_s, Rd_paid, Rd_missing, Rd_pence, Rd_paid_s, Rd_missing_s, Rd_pence_s, Md_thrown, Md_z, Md_past, Md_pastMany, Md_slots, Md_isSaved, Md_spare, Md_text, Md_typed, Md_hasPaid, Md_misses, Md_potNow, Md_read, Md_spot, Md_wrong, Md_thrown_s, Md_z_s, Md_past_s, Md_pastMany_s, Md_slots_s, Md_isSaved_s, Md_spare_s, Md_text_s, Md_typed_s, Md_hasPaid_s, Md_misses_s, Md_potNow_s, Md_read_s, Md_spot_s, Md_wrong_s, mul8, mul8r, lt_e, bd_s, gi_ok, gz2, gz8, gz40, q_add, nI_s1, nI_clamp, upd_same, nar0, nar1, c0, c1, c2, c3, c4, g0_157, g1_157, g2_157, g3_157, g4_157, g0_1, a5, a13, a21, a29, a37, a45, a53, a61, a69, a77, a85, a93, E_0, E_1, E_2, E_3, E_4, E_pu, E_gu, E_bi, E_aw, E_ta, E_ins, E_pf, E_po, E_go, E_sh, E_ms, E_de, e, ↓reduceIte]
      by_cases q : bo < pf a / (2:Int32)
      · rw [if_pos q, if_pos (Int32.le_of_lt q)]
      · rw [if_neg q]
        by_cases q2 : bo ≤ pf a / (2:Int32)
        · rw [if_pos q2, Int32.le_antisymm q2 (Int32.not_lt.mp q)]
        · rw [if_neg q2]
  · refine ⟨-co * nI k, ?_, ?_⟩
    · simp (disch := omega) only [f_X3_gainOfGoing, hk, St_count, St_month, St_contribution, St_box, St_given, St_purse, St_guarantor, St_bid, St_away, St_taken, St_inside, St_paidForItself, St_paidForOthers, St_gotOfPot, St_shares, St_misses, St_debt, St_count_s, St_month_s, St_contribution_s, St_box_s, St_given_s, St_purse_s, St_guarantor_s, St_bid_s, St_away_s, St_taken_s, St_inside_s, St_paidForItself_s, St_paidForOthers_s, St_gotOfPot_s, St_shares_s, St_misses_s, St_debt_s, Rd_paid, Rd_missing, Rd_pence, Rd_paid_s, Rd_missing_s, Rd_pence_s, Md_thrown, Md_z, Md_past, Md_pastMany, Md_slots, Md_isSaved, Md_spare, Md_text, Md_typed, Md_hasPaid, Md_misses, Md_potNow, Md_read, Md_spot, Md_wrong, Md_thrown_s, Md_z_s, Md_past_s, Md_pastMany_s, Md_slots_s, Md_isSaved_s, Md_spare_s, Md_text_s, Md_typed_s, Md_hasPaid_s, Md_misses_s, Md_potNow_s, Md_read_s, Md_spot_s, Md_wrong_s, mul8, mul8r, lt_e, bd_s, gi_ok, gz2, gz8, gz40, q_add, nI_s1, nI_clamp, upd_same, nar0, nar1, c0, c1, c2, c3, c4, g0_157, g1_157, g2_157, g3_157, g4_157, g0_1, a5, a13, a21, a29, a37, a45, a53, a61, a69, a77, a85, a93, e, o_ne, ↓reduceIte]
    · intro th past pm sl sv sp tx ty hp mi pot rd spt wr
      obtain ⟨k2, -, hk2, hm2⟩ := hw th past pm sl sv sp tx ty hp mi pot rd spt wr
      have hkk : nI k2 = nI k := congrArg Prod.fst (Option.some.inj (hk2.symm.trans hk))
      rw [hkk] at hm2
      simp (disch := omega) only [f_X6_getsAtLeave, hm2, St_count, St_month, St_contribution, St_box, St_given, St_purse, St_guarantor, St_bid, St_away, St_taken, St_inside, St_paidForItself, St_paidForOthers, St_gotOfPot, St_shares, St_misses, St_debt, St_count_s, St_month_s, St_contribution_s, St_box_s, St_given_s, St_purse_s, St_guarantor_s, St_bid_s, St_away_s, St_taken_s, St_inside_s, St_paidForItself_s, St_paidForOthers_s, St_gotOfPot_s, St_shares_s, St_misses_s, St_debt_s, Rd_paid, Rd_missing, Rd_pence, Rd_paid_s, Rd_missing_s, Rd_pence_s, Md_thrown, Md_z, Md_past, Md_pastMany, Md_slots, Md_isSaved, Md_spare, Md_text, Md_typed, Md_hasPaid, Md_misses, Md_potNow, Md_read, Md_spot, Md_wrong, Md_thrown_s, Md_z_s, Md_past_s, Md_pastMany_s, Md_slots_s, Md_isSaved_s, Md_spare_s, Md_text_s, Md_typed_s, Md_hasPaid_s, Md_misses_s, Md_potNow_s, Md_read_s, Md_spot_s, Md_wrong_s, mul8, mul8r, lt_e, bd_s, gi_ok, gz2, gz8, gz40, q_add, nI_s1, nI_clamp, upd_same, nar0, nar1, c0, c1, c2, c3, c4, g0_157, g1_157, g2_157, g3_157, g4_157, g0_1, a5, a13, a21, a29, a37, a45, a53, a61, a69, a77, a85, a93, E_0, E_1, E_2, E_3, E_4, E_pu, E_gu, E_bi, E_aw, E_ta, E_ins, E_pf, E_po, E_go, E_sh, E_ms, E_de, e, o_ne, ↓reduceIte]
theorem act_leave (hp9 : Pst pa past pm) (hv : Now v z) (i : Int32) : Two (f_X5_leave v pa i) (f_X6_leave (th, z, past, pm, sl, sv, sp, tx, ty, hp, mi, pot, rd, spt, wr) i) (Ans (fun s k => (s = IOB ∧ k = 1) ∨ (s = ISE ∧ k = 2)) (fun (w : StV × PaV) q => ∃ t z' past' pm', q = (t, z', past', pm', sl, sv, sp, tx, ty, hp, mi, pot, rd, spt, wr) ∧ Now w.1 z' ∧ Pst w.2 past' pm')) := by
  obtain ⟨pa', past', pm', r1, r2, hp'⟩ := remember (th := (0:Int32)) (past := past) (pm := pm) (sl := sl) (sv := sv) (sp := sp) (tx := tx) (ty := ty) (hp := hp) (mi := mi) (pot := pot) (rd := rd) (spt := spt) (wr := wr) hp9 hv
  obtain ⟨c, m, hm, g⟩ := id hv
  have hc := g.cnt.1
  rcases mem_or i hc with ⟨a, ha, rfl⟩ | ha
  · obtain ⟨m1, m2, -⟩ := g.yes (th := th) (past := past) (pm := pm) (sl := sl) (sv := sv) (sp := sp) (tx := tx) (ty := ty) (hp := hp) (mi := mi) (pot := pot) (rd := rd) (spt := spt) (wr := wr) ha
    obtain ⟨y, y1, y2⟩ := g.gain ha
    obtain ⟨mo, co, bo, gv, pu, gu, bi, aw, ta, ins, pf, po, go, sh, ms, de, rfl, rfl, ok⟩ := g
    obtain ⟨o1, o2, o3, o4, o5, o6, o7, o8, o9⟩ := ok
    have bad : f_X3_mayGo (nI c, mo, co, bo, gv, pu, gu, bi, aw, ta, ins, pf, po, go, sh, ms, de) (nI a) = some ((0:Int32), ()) → f_X6_whyNotLeave (th, (E c mo co bo gv pu gu bi aw ta ins pf po go sh ms de), past, pm, sl, sv, sp, tx, ty, hp, mi, pot, rd, spt, wr) (nI a) = some ((2:Int32), ()) → Two (f_X5_leave (nI c, mo, co, bo, gv, pu, gu, bi, aw, ta, ins, pf, po, go, sh, ms, de) pa (nI a)) (f_X6_leave (th, (E c mo co bo gv pu gu bi aw ta ins pf po go sh ms de), past, pm, sl, sv, sp, tx, ty, hp, mi, pot, rd, spt, wr) (nI a)) (Ans (fun s k => (s = IOB ∧ k = 1) ∨ (s = ISE ∧ k = 2)) (fun (w : StV × PaV) q => ∃ t z' past' pm', q = (t, z', past', pm', sl, sv, sp, tx, ty, hp, mi, pot, rd, spt, wr) ∧ Now w.1 z' ∧ Pst w.2 past' pm')) := by
      intro q1 q2
      refine tw_mk (a := .inr (ISE, ((nI c, mo, co, bo, gv, pu, gu, bi, aw, ta, ins, pf, po, go, sh, ms, de), pa))) (b := ((0:Int32), (2, (E c mo co bo gv pu gu bi aw ta ins pf po go sh ms de), past, pm, sl, sv, sp, tx, ty, hp, mi, pot, rd, spt, wr))) ?_ ?_ ⟨2, Or.inr ⟨rfl, rfl⟩, rfl, 2, _, past, pm, rfl, hv, hp9⟩
      · simp only [f_X5_leave, m1, q1, bx_l, bd_s, ↓reduceIte]
      · simp only [f_X6_leave, q2, bd_s, lt_e, St_count, St_month, St_contribution, St_box, St_given, St_purse, St_guarantor, St_bid, St_away, St_taken, St_inside, St_paidForItself, St_paidForOthers, St_gotOfPot, St_shares, St_misses, St_debt, St_count_s, St_month_s, St_contribution_s, St_box_s, St_given_s, St_purse_s, St_guarantor_s, St_bid_s, St_away_s, St_taken_s, St_inside_s, St_paidForItself_s, St_paidForOthers_s, St_gotOfPot_s, St_shares_s, St_misses_s, St_debt_s, Rd_paid, Rd_missing, Rd_pence, Rd_paid_s, Rd_missing_s, Rd_pence_s, Md_thrown, Md_z, Md_past, Md_pastMany, Md_slots, Md_isSaved, Md_spare, Md_text, Md_typed, Md_hasPaid, Md_misses, Md_potNow, Md_read, Md_spot, Md_wrong, Md_thrown_s, Md_z_s, Md_past_s, Md_pastMany_s, Md_slots_s, Md_isSaved_s, Md_spare_s, Md_text_s, Md_typed_s, Md_hasPaid_s, Md_misses_s, Md_potNow_s, Md_read_s, Md_spot_s, Md_wrong_s, twle, ↓reduceIte]
    rcases o8 a ha with e | e
    · refine bad ?_ ?_
      · simp (disch := omega) only [f_X3_mayGo, St_count, St_month, St_contribution, St_box, St_given, St_purse, St_guarantor, St_bid, St_away, St_taken, St_inside, St_paidForItself, St_paidForOthers, St_gotOfPot, St_shares, St_misses, St_debt, St_count_s, St_month_s, St_contribution_s, St_box_s, St_given_s, St_purse_s, St_guarantor_s, St_bid_s, St_away_s, St_taken_s, St_inside_s, St_paidForItself_s, St_paidForOthers_s, St_gotOfPot_s, St_shares_s, St_misses_s, St_debt_s, Rd_paid, Rd_missing, Rd_pence, Rd_paid_s, Rd_missing_s, Rd_pence_s, Md_thrown, Md_z, Md_past, Md_pastMany, Md_slots, Md_isSaved, Md_spare, Md_text, Md_typed, Md_hasPaid, Md_misses, Md_potNow, Md_read, Md_spot, Md_wrong, Md_thrown_s, Md_z_s, Md_past_s, Md_pastMany_s, Md_slots_s, Md_isSaved_s, Md_spare_s, Md_text_s, Md_typed_s, Md_hasPaid_s, Md_misses_s, Md_potNow_s, Md_read_s, Md_spot_s, Md_wrong_s, mul8, mul8r, lt_e, bd_s, gi_ok, gz2, gz8, gz40, q_add, nI_s1, nI_clamp, upd_same, nar0, nar1, c0, c1, c2, c3, c4, g0_157, g1_157, g2_157, g3_157, g4_157, g0_1, a5, a13, a21, a29, a37, a45, a53, a61, a69, a77, a85, a93, e, ↓reduceIte]
      · simp (disch := omega) only [f_X6_whyNotLeave, m2, St_count, St_month, St_contribution, St_box, St_given, St_purse, St_guarantor, St_bid, St_away, St_taken, St_inside, St_paidForItself, St_paidForOthers, St_gotOfPot, St_shares, St_misses, St_debt, St_count_s, St_month_s, St_contribution_s, St_box_s, St_given_s, St_purse_s, St_guarantor_s, St_bid_s, St_away_s, St_taken_s, St_inside_s, St_paidForItself_s, St_paidForOthers_s, St_gotOfPot_s, St_shares_s, St_misses_s, St_debt_s, Rd_paid, Rd_missing, Rd_pence, Rd_paid_s, Rd_missing_s, Rd_pence_s, Md_thrown, Md_z, Md_past, Md_pastMany, Md_slots, Md_isSaved, Md_spare, Md_text, Md_typed, Md_hasPaid, Md_misses, Md_potNow, Md_read, Md_spot, Md_wrong, Md_thrown_s, Md_z_s, Md_past_s, Md_pastMany_s, Md_slots_s, Md_isSaved_s, Md_spare_s, Md_text_s, Md_typed_s, Md_hasPaid_s, Md_misses_s, Md_potNow_s, Md_read_s, Md_spot_s, Md_wrong_s, mul8, mul8r, lt_e, bd_s, gi_ok, gz2, gz8, gz40, q_add, nI_s1, nI_clamp, upd_same, nar0, nar1, c0, c1, c2, c3, c4, g0_157, g1_157, g2_157, g3_157, g4_157, g0_1, a5, a13, a21, a29, a37, a45, a53, a61, a69, a77, a85, a93, E_0, E_1, E_2, E_3, E_4, E_pu, E_gu, E_bi, E_aw, E_ta, E_ins, E_pf, E_po, E_go, E_sh, E_ms, E_de, e, o_ne, ↓reduceIte]
    · by_cases q : pu a + y < 0
      · refine bad ?_ ?_
        · simp (disch := omega) only [f_X3_mayGo, y1, St_count, St_month, St_contribution, St_box, St_given, St_purse, St_guarantor, St_bid, St_away, St_taken, St_inside, St_paidForItself, St_paidForOthers, St_gotOfPot, St_shares, St_misses, St_debt, St_count_s, St_month_s, St_contribution_s, St_box_s, St_given_s, St_purse_s, St_guarantor_s, St_bid_s, St_away_s, St_taken_s, St_inside_s, St_paidForItself_s, St_paidForOthers_s, St_gotOfPot_s, St_shares_s, St_misses_s, St_debt_s, Rd_paid, Rd_missing, Rd_pence, Rd_paid_s, Rd_missing_s, Rd_pence_s, Md_thrown, Md_z, Md_past, Md_pastMany, Md_slots, Md_isSaved, Md_spare, Md_text, Md_typed, Md_hasPaid, Md_misses, Md_potNow, Md_read, Md_spot, Md_wrong, Md_thrown_s, Md_z_s, Md_past_s, Md_pastMany_s, Md_slots_s, Md_isSaved_s, Md_spare_s, Md_text_s, Md_typed_s, Md_hasPaid_s, Md_misses_s, Md_potNow_s, Md_read_s, Md_spot_s, Md_wrong_s, mul8, mul8r, lt_e, bd_s, gi_ok, gz2, gz8, gz40, q_add, nI_s1, nI_clamp, upd_same, nar0, nar1, c0, c1, c2, c3, c4, g0_157, g1_157, g2_157, g3_157, g4_157, g0_1, a5, a13, a21, a29, a37, a45, a53, a61, a69, a77, a85, a93, e, q, o_ne, ↓reduceIte]
        · have q' : ¬ (0:Int32) ≤ pu a + y := Int32.not_le.mpr q
          simp (disch := omega) only [f_X6_whyNotLeave, m2, y2, St_count, St_month, St_contribution, St_box, St_given, St_purse, St_guarantor, St_bid, St_away, St_taken, St_inside, St_paidForItself, St_paidForOthers, St_gotOfPot, St_shares, St_misses, St_debt, St_count_s, St_month_s, St_contribution_s, St_box_s, St_given_s, St_purse_s, St_guarantor_s, St_bid_s, St_away_s, St_taken_s, St_inside_s, St_paidForItself_s, St_paidForOthers_s, St_gotOfPot_s, St_shares_s, St_misses_s, St_debt_s, Rd_paid, Rd_missing, Rd_pence, Rd_paid_s, Rd_missing_s, Rd_pence_s, Md_thrown, Md_z, Md_past, Md_pastMany, Md_slots, Md_isSaved, Md_spare, Md_text, Md_typed, Md_hasPaid, Md_misses, Md_potNow, Md_read, Md_spot, Md_wrong, Md_thrown_s, Md_z_s, Md_past_s, Md_pastMany_s, Md_slots_s, Md_isSaved_s, Md_spare_s, Md_text_s, Md_typed_s, Md_hasPaid_s, Md_misses_s, Md_potNow_s, Md_read_s, Md_spot_s, Md_wrong_s, mul8, mul8r, lt_e, bd_s, gi_ok, gz2, gz8, gz40, q_add, nI_s1, nI_clamp, upd_same, nar0, nar1, c0, c1, c2, c3, c4, g0_157, g1_157, g2_157, g3_157, g4_157, g0_1, a5, a13, a21, a29, a37, a45, a53, a61, a69, a77, a85, a93, E_0, E_1, E_2, E_3, E_4, E_pu, E_gu, E_bi, E_aw, E_ta, E_ins, E_pf, E_po, E_go, E_sh, E_ms, E_de, e, q', o_ne, ↓reduceIte]
      · have q' : (0:Int32) ≤ pu a + y := Int32.not_lt.mp q
        have w1 : f_X3_mayGo (nI c, mo, co, bo, gv, pu, gu, bi, aw, ta, ins, pf, po, go, sh, ms, de) (nI a) = some ((1:Int32), ()) := by
          simp (disch := omega) only [f_X3_mayGo, y1, St_count, St_month, St_contribution, St_box, St_given, St_purse, St_guarantor, St_bid, St_away, St_taken, St_inside, St_paidForItself, St_paidForOthers, St_gotOfPot, St_shares, St_misses, St_debt, St_count_s, St_month_s, St_contribution_s, St_box_s, St_given_s, St_purse_s, St_guarantor_s, St_bid_s, St_away_s, St_taken_s, St_inside_s, St_paidForItself_s, St_paidForOthers_s, St_gotOfPot_s, St_shares_s, St_misses_s, St_debt_s, Rd_paid, Rd_missing, Rd_pence, Rd_paid_s, Rd_missing_s, Rd_pence_s, Md_thrown, Md_z, Md_past, Md_pastMany, Md_slots, Md_isSaved, Md_spare, Md_text, Md_typed, Md_hasPaid, Md_misses, Md_potNow, Md_read, Md_spot, Md_wrong, Md_thrown_s, Md_z_s, Md_past_s, Md_pastMany_s, Md_slots_s, Md_isSaved_s, Md_spare_s, Md_text_s, Md_typed_s, Md_hasPaid_s, Md_misses_s, Md_potNow_s, Md_read_s, Md_spot_s, Md_wrong_s, mul8, mul8r, lt_e, bd_s, gi_ok, gz2, gz8, gz40, q_add, nI_s1, nI_clamp, upd_same, nar0, nar1, c0, c1, c2, c3, c4, g0_157, g1_157, g2_157, g3_157, g4_157, g0_1, a5, a13, a21, a29, a37, a45, a53, a61, a69, a77, a85, a93, e, q, o_ne, ↓reduceIte]
        have w2 : f_X6_whyNotLeave (th, (E c mo co bo gv pu gu bi aw ta ins pf po go sh ms de), past, pm, sl, sv, sp, tx, ty, hp, mi, pot, rd, spt, wr) (nI a) = some ((0:Int32), ()) := by
          simp (disch := omega) only [f_X6_whyNotLeave, m2, y2, St_count, St_month, St_contribution, St_box, St_given, St_purse, St_guarantor, St_bid, St_away, St_taken, St_inside, St_paidForItself, St_paidForOthers, St_gotOfPot, St_shares, St_misses, St_debt, St_count_s, St_month_s, St_contribution_s, St_box_s, St_given_s, St_purse_s, St_guarantor_s, St_bid_s, St_away_s, St_taken_s, St_inside_s, St_paidForItself_s, St_paidForOthers_s, St_gotOfPot_s, St_shares_s, St_misses_s, St_debt_s, Rd_paid, Rd_missing, Rd_pence, Rd_paid_s, Rd_missing_s, Rd_pence_s, Md_thrown, Md_z, Md_past, Md_pastMany, Md_slots, Md_isSaved, Md_spare, Md_text, Md_typed, Md_hasPaid, Md_misses, Md_potNow, Md_read, Md_spot, Md_wrong, Md_thrown_s, Md_z_s, Md_past_s, Md_pastMany_s, Md_slots_s, Md_isSaved_s, Md_spare_s, Md_text_s, Md_typed_s, Md_hasPaid_s, Md_misses_s, Md_potNow_s, Md_read_s, Md_spot_s, Md_wrong_s, mul8, mul8r, lt_e, bd_s, gi_ok, gz2, gz8, gz40, q_add, nI_s1, nI_clamp, upd_same, nar0, nar1, c0, c1, c2, c3, c4, g0_157, g1_157, g2_157, g3_157, g4_157, g0_1, a5, a13, a21, a29, a37, a45, a53, a61, a69, a77, a85, a93, E_0, E_1, E_2, E_3, E_4, E_pu, E_gu, E_bi, E_aw, E_ta, E_ins, E_pf, E_po, E_go, E_sh, E_ms, E_de, e, q', o_ne, ↓reduceIte]
        refine tw_mk (a := .inl (y, ((nI c, mo, co, bo - y, gv, upd pu a (pu a + y), gu, bi, aw, ta, upd ins a 0, pf, po, go, sh, ms, de), pa'))) (b := (y, (0, (E c mo co (bo - y) gv (upd pu a (pu a + y)) gu bi aw ta (upd ins a 0) pf po go sh ms de), past', pm', sl, sv, sp, tx, ty, hp, mi, pot, rd, spt, wr))) ?_ ?_ ⟨rfl, rfl, 0, _, past', pm', rfl, ⟨c, m, hm, mo, co, _, gv, _, gu, bi, aw, ta, _, pf, po, go, sh, ms, de, rfl, rfl, o1, o2, o3, o4, o5, o6, o7, o8.upd (Or.inl rfl), o9⟩, hp'⟩
        · simp (disch := omega) only [f_X5_leave, f_X3_go, m1, w1, r1, y1, nar0, bx_l, St_count, St_month, St_contribution, St_box, St_given, St_purse, St_guarantor, St_bid, St_away, St_taken, St_inside, St_paidForItself, St_paidForOthers, St_gotOfPot, St_shares, St_misses, St_debt, St_count_s, St_month_s, St_contribution_s, St_box_s, St_given_s, St_purse_s, St_guarantor_s, St_bid_s, St_away_s, St_taken_s, St_inside_s, St_paidForItself_s, St_paidForOthers_s, St_gotOfPot_s, St_shares_s, St_misses_s, St_debt_s, Rd_paid, Rd_missing, Rd_pence, Rd_paid_s, Rd_missing_s, Rd_pence_s, Md_thrown, Md_z, Md_past, Md_pastMany, Md_slots, Md_isSaved, Md_spare, Md_text, Md_typed, Md_hasPaid, Md_misses, Md_potNow, Md_read, Md_spot, Md_wrong, Md_thrown_s, Md_z_s, Md_past_s, Md_pastMany_s, Md_slots_s, Md_isSaved_s, Md_spare_s, Md_text_s, Md_typed_s, Md_hasPaid_s, Md_misses_s, Md_potNow_s, Md_read_s, Md_spot_s, Md_wrong_s, mul8, mul8r, lt_e, bd_s, gi_ok, gz2, gz8, gz40, q_add, nI_s1, nI_clamp, upd_same, nar0, nar1, c0, c1, c2, c3, c4, g0_157, g1_157, g2_157, g3_157, g4_157, g0_1, a5, a13, a21, a29, a37, a45, a53, a61, a69, a77, a85, a93, o_ne, ↓reduceIte]
        · simp (disch := omega) only [f_X6_leave, f_X6_goAway, w2, r2, y2, St_count, St_month, St_contribution, St_box, St_given, St_purse, St_guarantor, St_bid, St_away, St_taken, St_inside, St_paidForItself, St_paidForOthers, St_gotOfPot, St_shares, St_misses, St_debt, St_count_s, St_month_s, St_contribution_s, St_box_s, St_given_s, St_purse_s, St_guarantor_s, St_bid_s, St_away_s, St_taken_s, St_inside_s, St_paidForItself_s, St_paidForOthers_s, St_gotOfPot_s, St_shares_s, St_misses_s, St_debt_s, Rd_paid, Rd_missing, Rd_pence, Rd_paid_s, Rd_missing_s, Rd_pence_s, Md_thrown, Md_z, Md_past, Md_pastMany, Md_slots, Md_isSaved, Md_spare, Md_text, Md_typed, Md_hasPaid, Md_misses, Md_potNow, Md_read, Md_spot, Md_wrong, Md_thrown_s, Md_z_s, Md_past_s, Md_pastMany_s, Md_slots_s, Md_isSaved_s, Md_spare_s, Md_text_s, Md_typed_s, Md_hasPaid_s, Md_misses_s, Md_potNow_s, Md_read_s, Md_spot_s, Md_wrong_s, mul8, mul8r, lt_e, bd_s, gi_ok, gz2, gz8, gz40, q_add, nI_s1, nI_clamp, upd_same, nar0, nar1, c0, c1, c2, c3, c4, g0_157, g1_157, g2_157, g3_157, g4_157, g0_1, a5, a13, a21, a29, a37, a45, a53, a61, a69, a77, a85, a93, E_0, E_1, E_2, E_3, E_4, E_pu, E_gu, E_bi, E_aw, E_ta, E_ins, E_pf, E_po, E_go, E_sh, E_ms, E_de, U_1, U_2, U_3, U_4, U_pu, U_gu, U_bi, U_aw, U_ta, U_ins, U_pf, U_po, U_go, U_sh, U_ms, U_de, zle, ↓reduceIte]
  · obtain ⟨m1, m2, -⟩ := g.no (th := th) (past := past) (pm := pm) (sl := sl) (sv := sv) (sp := sp) (tx := tx) (ty := ty) (hp := hp) (mi := mi) (pot := pot) (rd := rd) (spt := spt) (wr := wr) ha
    refine tw_mk (a := .inr (IOB, (v, pa))) (b := ((0:Int32), (1, z, past, pm, sl, sv, sp, tx, ty, hp, mi, pot, rd, spt, wr))) ?_ ?_ ⟨1, Or.inl ⟨rfl, rfl⟩, rfl, 1, z, past, pm, rfl, hv, hp9⟩
    · simp only [f_X5_leave, m1, bx_r]
    · simp only [f_X6_leave, f_X6_whyNotLeave, m2, bd_s, lt_e, St_count, St_month, St_contribution, St_box, St_given, St_purse, St_guarantor, St_bid, St_away, St_taken, St_inside, St_paidForItself, St_paidForOthers, St_gotOfPot, St_shares, St_misses, St_debt, St_count_s, St_month_s, St_contribution_s, St_box_s, St_given_s, St_purse_s, St_guarantor_s, St_bid_s, St_away_s, St_taken_s, St_inside_s, St_paidForItself_s, St_paidForOthers_s, St_gotOfPot_s, St_shares_s, St_misses_s, St_debt_s, Rd_paid, Rd_missing, Rd_pence, Rd_paid_s, Rd_missing_s, Rd_pence_s, Md_thrown, Md_z, Md_past, Md_pastMany, Md_slots, Md_isSaved, Md_spare, Md_text, Md_typed, Md_hasPaid, Md_misses, Md_potNow, Md_read, Md_spot, Md_wrong, Md_thrown_s, Md_z_s, Md_past_s, Md_pastMany_s, Md_slots_s, Md_isSaved_s, Md_spare_s, Md_text_s, Md_typed_s, Md_hasPaid_s, Md_misses_s, Md_potNow_s, Md_read_s, Md_spot_s, Md_wrong_s, ole, ↓reduceIte]
/-- the slots: what is used is a state with its row -/
def Slt (used : Nat → Int32) (s0 s1 : StV) (sl sv : Nat → Int32) : Prop := sv = used ∧ (∀ j, j < 2 → used j = 0 ∨ used j = 1) ∧ (used 0 = 1 → Now s0 (Seg sl 0)) ∧ (used 1 = 1 → Now s1 (Seg sl 1))
theorem put {fu j : Nat} (hf : 157 < fu) (hj : j < 2) : One (lp (b_X6_save_36 (nI j)) fu ((0:Int32), (th, z, past, pm, sl, sv, sp, tx, ty, hp, mi, pot, rd, spt, wr))) (fun e => ∃ sl', e = (nI 157, (th, z, past, pm, sl', sv, sp, tx, ty, hp, mi, pot, rd, spt, wr)) ∧ (∀ k, k < 157 → sl' (j * 157 + k) = z k) ∧ ∀ k, (k < j * 157 ∨ (j + 1) * 157 ≤ k) → sl' k = sl k) := by
  refine lp_one (fun w s => ∃ i sl', s = (nI i, (th, z, past, pm, sl', sv, sp, tx, ty, hp, mi, pot, rd, spt, wr)) ∧ i ≤ 157 ∧ w = 157 - i ∧ (∀ k, k < i → sl' (j * 157 + k) = z k) ∧ ∀ k, (k < j * 157 ∨ (j + 1) * 157 ≤ k) → sl' k = sl k) _ ?_ (n := 157) ⟨0, sl, rfl, by omega, by omega, fun k h => by omega, fun k _ => rfl⟩ hf
  rintro w s ⟨i, sl', rfl, h1, rfl, h2, h3⟩ J hJ
  by_cases h : i = 157
  · subst h
    simp (disch := omega) only [b_X6_save_36, St_count, St_month, St_contribution, St_box, St_given, St_purse, St_guarantor, St_bid, St_away, St_taken, St_inside, St_paidForItself, St_paidForOthers, St_gotOfPot, St_shares, St_misses, St_debt, St_count_s, St_month_s, St_contribution_s, St_box_s, St_given_s, St_purse_s, St_guarantor_s, St_bid_s, St_away_s, St_taken_s, St_inside_s, St_paidForItself_s, St_paidForOthers_s, St_gotOfPot_s, St_shares_s, St_misses_s, St_debt_s, Rd_paid, Rd_missing, Rd_pence, Rd_paid_s, Rd_missing_s, Rd_pence_s, Md_thrown, Md_z, Md_past, Md_pastMany, Md_slots, Md_isSaved, Md_spare, Md_text, Md_typed, Md_hasPaid, Md_misses, Md_potNow, Md_read, Md_spot, Md_wrong, Md_thrown_s, Md_z_s, Md_past_s, Md_pastMany_s, Md_slots_s, Md_isSaved_s, Md_spare_s, Md_text_s, Md_typed_s, Md_hasPaid_s, Md_misses_s, Md_potNow_s, Md_read_s, Md_spot_s, Md_wrong_s, mul8, mul8r, lt_e, bd_s, gi_ok, gz2, gz8, gz40, q_add, nI_s1, nI_clamp, upd_same, nar0, nar1, c0, c1, c2, c3, c4, g0_157, g1_157, g2_157, g3_157, g4_157, g0_1, a5, a13, a21, a29, a37, a45, a53, a61, a69, a77, a85, a93, le157, Nat.le_refl, ↓reduceIte]
    exact ⟨sl', rfl, h2, h3⟩
  · have nc : ¬ 157 ≤ i := by omega
    simp (disch := omega) only [b_X6_save_36, St_count, St_month, St_contribution, St_box, St_given, St_purse, St_guarantor, St_bid, St_away, St_taken, St_inside, St_paidForItself, St_paidForOthers, St_gotOfPot, St_shares, St_misses, St_debt, St_count_s, St_month_s, St_contribution_s, St_box_s, St_given_s, St_purse_s, St_guarantor_s, St_bid_s, St_away_s, St_taken_s, St_inside_s, St_paidForItself_s, St_paidForOthers_s, St_gotOfPot_s, St_shares_s, St_misses_s, St_debt_s, Rd_paid, Rd_missing, Rd_pence, Rd_paid_s, Rd_missing_s, Rd_pence_s, Md_thrown, Md_z, Md_past, Md_pastMany, Md_slots, Md_isSaved, Md_spare, Md_text, Md_typed, Md_hasPaid, Md_misses, Md_potNow, Md_read, Md_spot, Md_wrong, Md_thrown_s, Md_z_s, Md_past_s, Md_pastMany_s, Md_slots_s, Md_isSaved_s, Md_spare_s, Md_text_s, Md_typed_s, Md_hasPaid_s, Md_misses_s, Md_potNow_s, Md_read_s, Md_spot_s, Md_wrong_s, mul8, mul8r, lt_e, bd_s, gi_ok, gz2, gz8, gz40, q_add, nI_s1, nI_clamp, upd_same, nar0, nar1, c0, c1, c2, c3, c4, g0_157, g1_157, g2_157, g3_157, g4_157, g0_1, a5, a13, a21, a29, a37, a45, a53, a61, a69, a77, a85, a93, mul157, le157, nc, ↓reduceIte]
    refine hJ _ _ (by omega) ⟨i + 1, _, rfl, by omega, rfl, fun q hq => ?_, fun q hq => ?_⟩
    · by_cases e : q = i
      · subst e; rw [upd_same]
      · rw [upd_ne (by omega)]; exact h2 q (by omega)
    · rw [upd_ne (by omega)]; exact h3 q hq
theorem take {fu j : Nat} (hf : 157 < fu) (hj : j < 2) : One (lp (b_X6_restore_42 (nI j)) fu ((0:Int32), (th, z, past, pm, sl, sv, sp, tx, ty, hp, mi, pot, rd, spt, wr))) (fun e => ∃ z', e = (nI 157, (th, z', past, pm, sl, sv, sp, tx, ty, hp, mi, pot, rd, spt, wr)) ∧ (∀ k, k < 157 → z' k = sl (j * 157 + k)) ∧ ∀ k, 157 ≤ k → z' k = z k) := by
  refine lp_one (fun w s => ∃ i z', s = (nI i, (th, z', past, pm, sl, sv, sp, tx, ty, hp, mi, pot, rd, spt, wr)) ∧ i ≤ 157 ∧ w = 157 - i ∧ (∀ k, k < i → z' k = sl (j * 157 + k)) ∧ ∀ k, 157 ≤ k → z' k = z k) _ ?_ (n := 157) ⟨0, z, rfl, by omega, by omega, fun k h => by omega, fun k _ => rfl⟩ hf
  rintro w s ⟨i, z', rfl, h1, rfl, h2, h3⟩ J hJ
  by_cases h : i = 157
  · subst h
    simp (disch := omega) only [b_X6_restore_42, St_count, St_month, St_contribution, St_box, St_given, St_purse, St_guarantor, St_bid, St_away, St_taken, St_inside, St_paidForItself, St_paidForOthers, St_gotOfPot, St_shares, St_misses, St_debt, St_count_s, St_month_s, St_contribution_s, St_box_s, St_given_s, St_purse_s, St_guarantor_s, St_bid_s, St_away_s, St_taken_s, St_inside_s, St_paidForItself_s, St_paidForOthers_s, St_gotOfPot_s, St_shares_s, St_misses_s, St_debt_s, Rd_paid, Rd_missing, Rd_pence, Rd_paid_s, Rd_missing_s, Rd_pence_s, Md_thrown, Md_z, Md_past, Md_pastMany, Md_slots, Md_isSaved, Md_spare, Md_text, Md_typed, Md_hasPaid, Md_misses, Md_potNow, Md_read, Md_spot, Md_wrong, Md_thrown_s, Md_z_s, Md_past_s, Md_pastMany_s, Md_slots_s, Md_isSaved_s, Md_spare_s, Md_text_s, Md_typed_s, Md_hasPaid_s, Md_misses_s, Md_potNow_s, Md_read_s, Md_spot_s, Md_wrong_s, mul8, mul8r, lt_e, bd_s, gi_ok, gz2, gz8, gz40, q_add, nI_s1, nI_clamp, upd_same, nar0, nar1, c0, c1, c2, c3, c4, g0_157, g1_157, g2_157, g3_157, g4_157, g0_1, a5, a13, a21, a29, a37, a45, a53, a61, a69, a77, a85, a93, le157, Nat.le_refl, ↓reduceIte]
    exact ⟨z', rfl, h2, h3⟩
  · have nc : ¬ 157 ≤ i := by omega
    simp (disch := omega) only [b_X6_restore_42, St_count, St_month, St_contribution, St_box, St_given, St_purse, St_guarantor, St_bid, St_away, St_taken, St_inside, St_paidForItself, St_paidForOthers, St_gotOfPot, St_shares, St_misses, St_debt, St_count_s, St_month_s, St_contribution_s, St_box_s, St_given_s, St_purse_s, St_guarantor_s, St_bid_s, St_away_s, St_taken_s, St_inside_s, St_paidForItself_s, St_paidForOthers_s, St_gotOfPot_s, St_shares_s, St_misses_s, St_debt_s, Rd_paid, Rd_missing, Rd_pence, Rd_paid_s, Rd_missing_s, Rd_pence_s, Md_thrown, Md_z, Md_past, Md_pastMany, Md_slots, Md_isSaved, Md_spare, Md_text, Md_typed, Md_hasPaid, Md_misses, Md_potNow, Md_read, Md_spot, Md_wrong, Md_thrown_s, Md_z_s, Md_past_s, Md_pastMany_s, Md_slots_s, Md_isSaved_s, Md_spare_s, Md_text_s, Md_typed_s, Md_hasPaid_s, Md_misses_s, Md_potNow_s, Md_read_s, Md_spot_s, Md_wrong_s, mul8, mul8r, lt_e, bd_s, gi_ok, gz2, gz8, gz40, q_add, nI_s1, nI_clamp, upd_same, nar0, nar1, c0, c1, c2, c3, c4, g0_157, g1_157, g2_157, g3_157, g4_157, g0_1, a5, a13, a21, a29, a37, a45, a53, a61, a69, a77, a85, a93, mul157, le157, nc, ↓reduceIte]
    refine hJ _ _ (by omega) ⟨i + 1, _, rfl, by omega, rfl, fun q hq => ?_, fun q hq => ?_⟩
    · by_cases e : q = i
      · subst e; rw [upd_same]
      · rw [upd_ne e]; exact h2 q (by omega)
    · rw [upd_ne (by omega)]; exact h3 q hq
theorem slot_or (i : Int32) : (∃ j, j < 2 ∧ i = nI j) ∨ (i < nI 0 ∨ nI 1 < i) := by
  rcases rng2 i 0 1 (by omega) (by omega) with h | ⟨k, -, h1, rfl⟩
  · exact Or.inr h
  · exact Or.inl ⟨k, by omega, rfl⟩
theorem rs_ok {j : Nat} (h : j < 2) : f_X5_requireSlot (nI j) = some (.inl ((), ())) := by
  have h2 : nI j < (2:Int32) := nI_lt (b := 2) h (by omega)
  have h3 : ¬ (2:Int32) ≤ nI j := Int32.not_le.mpr h2
  simp (disch := omega) only [f_X5_requireSlot, nI_nn, h2, h3, ↓reduceIte]
theorem rs_no {i : Int32} (h : i < nI 0 ∨ nI 1 < i) : f_X5_requireSlot i = some (.inr (IOB, ())) := by
  by_cases q : i < (0:Int32)
  · simp only [f_X5_requireSlot, q, ↓reduceIte]
  · have h1 := h.resolve_left q
    obtain ⟨k, hk, rfl⟩ := nat_of q
    rw [nI_lti (by omega) hk] at h1
    have h2 : ¬ nI k < (2:Int32) := nI_nlt (b := 2) (by omega) hk
    have h3 : (2:Int32) ≤ nI k := Int32.not_lt.mp h2
    simp only [f_X5_requireSlot, q, h2, h3, ↓reduceIte]
theorem act_save {used : Nat → Int32} {s0 s1 : StV} (hs : Slt used s0 s1 sl sv) (hv : Now v z) (i : Int32) : Two (f_X5_save v used s0 s1 i) (f_X6_save (th, z, past, pm, sl, sv, sp, tx, ty, hp, mi, pot, rd, spt, wr) i) (Ans (fun s k => s = IOB ∧ k = 1) (fun (w : SlV × StV × StV) q => ∃ t sl' sv', q = (t, z, past, pm, sl', sv', sp, tx, ty, hp, mi, pot, rd, spt, wr) ∧ Slt w.1 w.2.1 w.2.2 sl' sv')) := by
  rcases slot_or i with ⟨j, hj, rfl⟩ | hb
  · have e1 := rs_ok hj
    have e2 : f_X6_in (nI j) (0:Int32) (1:Int32) = some ((1:Int32), ()) := in_k2 (lo := 0) (hi := 1) (by omega) (by omega) (by omega)
    obtain ⟨c, m, hm, g⟩ := id hv
    obtain ⟨hc, -, -, n1, n2⟩ := g.cnt
    obtain ⟨rfl, hu, h0, h1⟩ := hs
    obtain ⟨e, q1, sl', rfl, b2, b3⟩ := lp_get (n := 157) (by omega) (fun fu hf => put (fu := fu) (j := j) hf hj (th := (0:Int32)) (z := z) (past := past) (pm := pm) (sl := sl) (sv := upd sv j 1) (sp := sp) (tx := tx) (ty := ty) (hp := hp) (mi := mi) (pot := pot) (rd := rd) (spt := spt) (wr := wr))
    have em : f_X6_save (th, z, past, pm, sl, sv, sp, tx, ty, hp, mi, pot, rd, spt, wr) (nI j) = some (nI m, (0, z, past, pm, sl', upd sv j 1, sp, tx, ty, hp, mi, pot, rd, spt, wr)) := by
      rw [f_X6_save, e2]
      simp (disch := omega) only [bd_s, o_ne, lt_e, St_count, St_month, St_contribution, St_box, St_given, St_purse, St_guarantor, St_bid, St_away, St_taken, St_inside, St_paidForItself, St_paidForOthers, St_gotOfPot, St_shares, St_misses, St_debt, St_count_s, St_month_s, St_contribution_s, St_box_s, St_given_s, St_purse_s, St_guarantor_s, St_bid_s, St_away_s, St_taken_s, St_inside_s, St_paidForItself_s, St_paidForOthers_s, St_gotOfPot_s, St_shares_s, St_misses_s, St_debt_s, Rd_paid, Rd_missing, Rd_pence, Rd_paid_s, Rd_missing_s, Rd_pence_s, Md_thrown, Md_z, Md_past, Md_pastMany, Md_slots, Md_isSaved, Md_spare, Md_text, Md_typed, Md_hasPaid, Md_misses, Md_potNow, Md_read, Md_spot, Md_wrong, Md_thrown_s, Md_z_s, Md_past_s, Md_pastMany_s, Md_slots_s, Md_isSaved_s, Md_spare_s, Md_text_s, Md_typed_s, Md_hasPaid_s, Md_misses_s, Md_potNow_s, Md_read_s, Md_spot_s, Md_wrong_s, zle, gi_ok, nI_clamp, nar1, q1, g2_157, c2, n2, ↓reduceIte]
    have hu' : ∀ q, q < 2 → upd sv j 1 q = 0 ∨ upd sv j 1 q = 1 := fun q hq => by
      by_cases e : q = j
      · subst e; rw [upd_same]; exact Or.inr rfl
      · rw [upd_ne e]; exact hu q hq
    have other : ∀ q, q < 2 → q ≠ j → Seg sl' q = Seg sl q := fun q hq hne => by
      refine Seg_of (fun k hk => ?_) (fun k hk => by unfold Seg; rw [if_neg (by omega)])
      rw [b3 _ (by omega)]
      unfold Seg
      rw [if_pos hk]
    have own : Seg sl' j = z := Seg_of b2 g.out
    have e1' : ∀ {B : Type} {k : Option B}, gi (nI j) 2 k = k := gi_ok hj (by omega)
    have e1c : (nI j).toNatClampNeg = j := nI_clamp (by omega)
    by_cases hj0 : j = 0
    · obtain ⟨s0', c1, g1⟩ := g.copy s0
      have ex : f_X5_save v sv s0 s1 (nI j) = some (.inl (nI m, (upd sv j 1, s0', s1))) := by
        rw [f_X5_save, e1, bx_l, e1', if_pos (by rw [e1c]; exact hj0), c1, bd_s, e1', lt_e, e1c, nar1, n1]
      refine tw_mk ex em ⟨rfl, rfl, 0, sl', _, rfl, rfl, hu', fun _ => ?_, fun h => ?_⟩
      · have own0 : Seg sl' 0 = z := hj0 ▸ own
        rw [own0]; exact ⟨c, m, hm, g1⟩
      · rw [other 1 (by omega) (by omega)]
        have h : upd sv j 1 1 = 1 := h
        rw [upd_ne (by omega)] at h
        exact h1 h
    · obtain ⟨s1', c1, g1⟩ := g.copy s1
      have ex : f_X5_save v sv s0 s1 (nI j) = some (.inl (nI m, (upd sv j 1, s0, s1'))) := by
        rw [f_X5_save, e1, bx_l, e1', if_neg (by rw [e1c]; exact hj0), c1, bd_s, e1', lt_e, e1c, nar1, n1]
      have hj1 : j = 1 := by omega
      refine tw_mk ex em ⟨rfl, rfl, 0, sl', _, rfl, rfl, hu', fun h => ?_, fun _ => ?_⟩
      · rw [other 0 (by omega) (by omega)]
        have h : upd sv j 1 0 = 1 := h
        rw [upd_ne (by omega)] at h
        exact h0 h
      · have own1 : Seg sl' 1 = z := hj1 ▸ own
        rw [own1]; exact ⟨c, m, hm, g1⟩
  · have e1 := rs_no hb
    have e2 : f_X6_in i (0:Int32) (1:Int32) = some ((0:Int32), ()) := in_no hb
    refine tw_mk (a := .inr (IOB, (used, s0, s1))) (b := ((0:Int32), (1, z, past, pm, sl, sv, sp, tx, ty, hp, mi, pot, rd, spt, wr))) ?_ ?_ ⟨1, ⟨rfl, rfl⟩, rfl, 1, sl, sv, rfl, hs⟩
    · simp only [f_X5_save, e1, bx_r]
    · rw [f_X6_save, e2]
      simp only [bd_s, lt_e, St_count, St_month, St_contribution, St_box, St_given, St_purse, St_guarantor, St_bid, St_away, St_taken, St_inside, St_paidForItself, St_paidForOthers, St_gotOfPot, St_shares, St_misses, St_debt, St_count_s, St_month_s, St_contribution_s, St_box_s, St_given_s, St_purse_s, St_guarantor_s, St_bid_s, St_away_s, St_taken_s, St_inside_s, St_paidForItself_s, St_paidForOthers_s, St_gotOfPot_s, St_shares_s, St_misses_s, St_debt_s, Rd_paid, Rd_missing, Rd_pence, Rd_paid_s, Rd_missing_s, Rd_pence_s, Md_thrown, Md_z, Md_past, Md_pastMany, Md_slots, Md_isSaved, Md_spare, Md_text, Md_typed, Md_hasPaid, Md_misses, Md_potNow, Md_read, Md_spot, Md_wrong, Md_thrown_s, Md_z_s, Md_past_s, Md_pastMany_s, Md_slots_s, Md_isSaved_s, Md_spare_s, Md_text_s, Md_typed_s, Md_hasPaid_s, Md_misses_s, Md_potNow_s, Md_read_s, Md_spot_s, Md_wrong_s, ole, ↓reduceIte]
theorem act_restore {used : Nat → Int32} {s0 s1 : StV} (hp9 : Pst pa past pm) (hs : Slt used s0 s1 sl sv) (hv : Now v z) (i : Int32) : Two (f_X5_restore v pa used s0 s1 i) (f_X6_restore (th, z, past, pm, sl, sv, sp, tx, ty, hp, mi, pot, rd, spt, wr) i) (Ans (fun s k => (s = IOB ∧ k = 1) ∨ (s = ISE ∧ k = 2)) (fun (w : StV × PaV) q => ∃ t z' past' pm', q = (t, z', past', pm', sl, sv, sp, tx, ty, hp, mi, pot, rd, spt, wr) ∧ Now w.1 z' ∧ Pst w.2 past' pm')) := by
  rcases slot_or i with ⟨j, hj, rfl⟩ | hb
  · have e1 := rs_ok hj
    have e2 : f_X6_in (nI j) (0:Int32) (1:Int32) = some ((1:Int32), ()) := in_k2 (lo := 0) (hi := 1) (by omega) (by omega) (by omega)
    obtain ⟨rfl, hu, h0, h1⟩ := id hs
    rcases hu j hj with e | e
    · refine tw_mk (a := .inr (ISE, (v, pa))) (b := ((0:Int32), (2, z, past, pm, sl, sv, sp, tx, ty, hp, mi, pot, rd, spt, wr))) ?_ ?_ ⟨2, Or.inr ⟨rfl, rfl⟩, rfl, 2, z, past, pm, rfl, hv, hp9⟩
      · simp (disch := omega) only [f_X5_restore, e1, bx_l, gi_ok, nI_clamp, Sl_used, e, ↓reduceIte]
      · rw [f_X6_restore, e2]
        simp (disch := omega) only [bd_s, o_ne, gi_ok, nI_clamp, lt_e, St_count, St_month, St_contribution, St_box, St_given, St_purse, St_guarantor, St_bid, St_away, St_taken, St_inside, St_paidForItself, St_paidForOthers, St_gotOfPot, St_shares, St_misses, St_debt, St_count_s, St_month_s, St_contribution_s, St_box_s, St_given_s, St_purse_s, St_guarantor_s, St_bid_s, St_away_s, St_taken_s, St_inside_s, St_paidForItself_s, St_paidForOthers_s, St_gotOfPot_s, St_shares_s, St_misses_s, St_debt_s, Rd_paid, Rd_missing, Rd_pence, Rd_paid_s, Rd_missing_s, Rd_pence_s, Md_thrown, Md_z, Md_past, Md_pastMany, Md_slots, Md_isSaved, Md_spare, Md_text, Md_typed, Md_hasPaid, Md_misses, Md_potNow, Md_read, Md_spot, Md_wrong, Md_thrown_s, Md_z_s, Md_past_s, Md_pastMany_s, Md_slots_s, Md_isSaved_s, Md_spare_s, Md_text_s, Md_typed_s, Md_hasPaid_s, Md_misses_s, Md_potNow_s, Md_read_s, Md_spot_s, Md_wrong_s, e, twle, ↓reduceIte]
    · have hn : ∃ sj, ((j = 0 ∧ sj = s0) ∨ (j = 1 ∧ sj = s1)) ∧ Now sj (Seg sl j) := by
        rcases (show j = 0 ∨ j = 1 by omega) with rfl | rfl
        · exact ⟨s0, Or.inl ⟨rfl, rfl⟩, h0 e⟩
        · exact ⟨s1, Or.inr ⟨rfl, rfl⟩, h1 e⟩
      obtain ⟨sj, hsj, c, m, hm, g⟩ := hn
      obtain ⟨v', cp, g'⟩ := g.copy v
      obtain ⟨c0, m0, -, g0⟩ := id hv
      obtain ⟨-, -, -, n1, n2⟩ := g'.cnt
      obtain ⟨e3, q1, z', rfl, b2, b3⟩ := lp_get (n := 157) (by omega) (fun fu hf => take (fu := fu) (j := j) hf hj (th := (0:Int32)) (z := z) (past := past) (pm := pm) (sl := sl) (sv := sv) (sp := sp) (tx := tx) (ty := ty) (hp := hp) (mi := mi) (pot := pot) (rd := rd) (spt := spt) (wr := wr))
      have hz : z' = Seg sl j := by
        funext k
        unfold Seg
        by_cases w : k < 157
        · rw [if_pos w, b2 k w]
        · rw [if_neg w, b3 k (by omega), g0.out k (by omega)]
      subst hz
      obtain ⟨n0, q0, -, hq0, -, hnx, -⟩ := id hp9
      refine tw_mk (a := .inl (nI m, (v', (Pa_size_s pa (0:Int32))))) (b := (nI m, (0, Seg sl j, past, 0, sl, sv, sp, tx, ty, hp, mi, pot, rd, spt, wr))) ?_ ?_ ⟨rfl, rfl, 0, Seg sl j, past, 0, rfl, ⟨c, m, hm, g'⟩, 0, q0, by omega, hq0, rfl, hnx, rfl, fun k hk => by omega⟩
      · have e0 : ¬ sv j = 0 := by rw [e]; decide
        have e1' : ∀ {B : Type} {k : Option B}, gi (nI j) 2 k = k := gi_ok hj (by omega)
        have e1c : (nI j).toNatClampNeg = j := nI_clamp (by omega)
        rcases hsj with ⟨hj0, rfl⟩ | ⟨hj1, rfl⟩
        · rw [f_X5_restore, e1, bx_l, e1', if_neg (by rw [e1c]; exact e0), e1', if_pos (by rw [e1c]; exact hj0), cp, bd_s]
          simp only [f_X0_forgetAll, bd_s, lt_e, n1]
        · rw [f_X5_restore, e1, bx_l, e1', if_neg (by rw [e1c]; exact e0), e1', if_neg (by rw [e1c]; omega), cp, bd_s]
          simp only [f_X0_forgetAll, bd_s, lt_e, n1]
      · have e0 : ¬ sv j = 0 := by rw [e]; decide
        rw [f_X6_restore, e2]
        simp (disch := omega) only [bd_s, o_ne, gi_ok, nI_clamp, lt_e, St_count, St_month, St_contribution, St_box, St_given, St_purse, St_guarantor, St_bid, St_away, St_taken, St_inside, St_paidForItself, St_paidForOthers, St_gotOfPot, St_shares, St_misses, St_debt, St_count_s, St_month_s, St_contribution_s, St_box_s, St_given_s, St_purse_s, St_guarantor_s, St_bid_s, St_away_s, St_taken_s, St_inside_s, St_paidForItself_s, St_paidForOthers_s, St_gotOfPot_s, St_shares_s, St_misses_s, St_debt_s, Rd_paid, Rd_missing, Rd_pence, Rd_paid_s, Rd_missing_s, Rd_pence_s, Md_thrown, Md_z, Md_past, Md_pastMany, Md_slots, Md_isSaved, Md_spare, Md_text, Md_typed, Md_hasPaid, Md_misses, Md_potNow, Md_read, Md_spot, Md_wrong, Md_thrown_s, Md_z_s, Md_past_s, Md_pastMany_s, Md_slots_s, Md_isSaved_s, Md_spare_s, Md_text_s, Md_typed_s, Md_hasPaid_s, Md_misses_s, Md_potNow_s, Md_read_s, Md_spot_s, Md_wrong_s, e0, zle, q1, g2_157, c2, n2, ↓reduceIte]
  · have e1 := rs_no hb
    have e2 : f_X6_in i (0:Int32) (1:Int32) = some ((0:Int32), ()) := in_no hb
    refine tw_mk (a := .inr (IOB, (v, pa))) (b := ((0:Int32), (1, z, past, pm, sl, sv, sp, tx, ty, hp, mi, pot, rd, spt, wr))) ?_ ?_ ⟨1, Or.inl ⟨rfl, rfl⟩, rfl, 1, z, past, pm, rfl, hv, hp9⟩
    · simp only [f_X5_restore, e1, bx_r]
    · rw [f_X6_restore, e2]
      simp only [bd_s, lt_e, St_count, St_month, St_contribution, St_box, St_given, St_purse, St_guarantor, St_bid, St_away, St_taken, St_inside, St_paidForItself, St_paidForOthers, St_gotOfPot, St_shares, St_misses, St_debt, St_count_s, St_month_s, St_contribution_s, St_box_s, St_given_s, St_purse_s, St_guarantor_s, St_bid_s, St_away_s, St_taken_s, St_inside_s, St_paidForItself_s, St_paidForOthers_s, St_gotOfPot_s, St_shares_s, St_misses_s, St_debt_s, Rd_paid, Rd_missing, Rd_pence, Rd_paid_s, Rd_missing_s, Rd_pence_s, Md_thrown, Md_z, Md_past, Md_pastMany, Md_slots, Md_isSaved, Md_spare, Md_text, Md_typed, Md_hasPaid, Md_misses, Md_potNow, Md_read, Md_spot, Md_wrong, Md_thrown_s, Md_z_s, Md_past_s, Md_pastMany_s, Md_slots_s, Md_isSaved_s, Md_spare_s, Md_text_s, Md_typed_s, Md_hasPaid_s, Md_misses_s, Md_potNow_s, Md_read_s, Md_spot_s, Md_wrong_s, ole, ↓reduceIte]
end LEAVE
