/-! a month: what comes in; who takes the pot -/
section TAKE
variable {c : Nat} {mo co bo gv : Int32} {pu gu bi aw ta ins pf po go sh ms de : Nat → Int32}
variable {th : Int32} {z past : Nat → Int32} {pm : Int32} {sl sv sp tx : Nat → Int32} {ty : Int32} {hp mi : Nat → Int32} {pot : Int32} {rd : Nat → Int32} {spt wr : Int32}
variable {pd mg bx : Nat → Int32} {pn : Int32}
theorem pays (hc : c ≤ 8) (hi : Bo c ins) (ha : Bo c aw) (hg : Gu c gu) {q B B2 : Nat} (hq : co = nI q) (hq5 : q ≤ 50) (hB : Rg c B pf) (hB2 : Rg c B2 po) : ∃ pd' mg' hp' mi1 mi' t1 t2 pu1 pf' pu' po' ms' de', f_X1_payIn (pd, mg, pn) (nI c, mo, co, bo, gv, pu, gu, bx, aw, ta, ins, pf, po, go, sh, ms, de) = some ((), ((pd', mg', nI (t1 + t2)), (nI c, mo, co, bo, gv, pu', gu, bx, aw, ta, ins, pf', po', go, sh, ms', de'))) ∧ f_X6_pay (th, (E c mo co bo gv pu gu bi aw ta ins pf po go sh ms de), past, pm, sl, sv, sp, tx, ty, hp, mi, pot, rd, spt, wr) = some (nI t1, (th, (E c mo co bo gv pu1 gu bi aw ta ins pf' po go sh ms de), past, pm, sl, sv, sp, tx, ty, hp', mi1, pot, rd, spt, wr)) ∧ f_X6_payForOthers (th, (E c mo co bo gv pu1 gu bi aw ta ins pf' po go sh ms de), past, pm, sl, sv, sp, tx, ty, hp', mi1, pot, rd, spt, wr) = some (nI t2, (th, (E c mo co bo gv pu' gu bi aw ta ins pf' po' go sh ms' de'), past, pm, sl, sv, sp, tx, ty, hp', mi', pot, rd, spt, wr)) ∧ t1 + t2 ≤ 800 ∧ Rg c (B + 50) pf' ∧ Rg c (B2 + 400) po' ∧ ∀ j, j < c → (mi' j = mg' j ∧ (mg' j = 0 ∨ mg' j = 1)) := by
  obtain ⟨e1, f1, a1, a2, pd', mg1, t1, pu1, pf', hp', mi1, rfl, rfl, h1, h2, h3⟩ := tw_get (pay_one (th := th) (past := past) (pm := pm) (sl := sl) (sv := sv) (sp := sp) (tx := tx) (ty := ty) (hp := hp) (mi := mi) (pot := pot) (rd := rd) (spt := spt) (wr := wr) (pd := pd) (mg := mg) (mo := mo) (bo := bo) (gv := gv) (pu := pu) (gu := gu) (bi := bi) (bx := bx) (ta := ta) (po := po) (go := go) (sh := sh) (ms := ms) (de := de) hc hi ha hq hq5 hB)
  obtain ⟨e2, f2, b1, b2, mg', t2, pu', po', ms', de', mi', rfl, rfl, h4, h5, h6⟩ := tw_get (pay_two (th := th) (past := past) (pm := pm) (sl := sl) (sv := sv) (sp := sp) (tx := tx) (ty := ty) (hp := hp') (mi := mi1) (pot := pot) (rd := rd) (spt := spt) (wr := wr) (pd := pd') (mg := mg1) (mo := mo) (bo := bo) (gv := gv) (pu := pu1) (bi := bi) (bx := bx) (aw := aw) (ta := ta) (pf := pf') (go := go) (sh := sh) (ms := ms) (de := de) (t0 := t1) hc hi hg hq hq5 hB2 h3)
  refine ⟨pd', mg', hp', mi1, mi', t1, t2, pu1, pf', pu', po', ms', de', ?_, ?_, ?_, ?_, h2, fun j hj => ?_, h6⟩
  · have a1 : lp b_X1_payIn_7 FU ((0:Int32), (pd, mg, (0:Int32)), (nI c, mo, co, bo, gv, pu, gu, bx, aw, ta, ins, pf, po, go, sh, ms, de)) = some (nI c, (pd', mg1, nI t1), (nI c, mo, co, bo, gv, pu1, gu, bx, aw, ta, ins, pf', po, go, sh, ms, de)) := a1
    have b1 : lp b_X1_payIn_120 FU ((0:Int32), (pd', mg1, nI t1), (nI c, mo, co, bo, gv, pu1, gu, bx, aw, ta, ins, pf', po, go, sh, ms, de)) = some (nI c, (pd', mg', nI (t1 + t2)), (nI c, mo, co, bo, gv, pu', gu, bx, aw, ta, ins, pf', po', go, sh, ms', de')) := b1
    simp only [f_X1_payIn, St_count, St_month, St_contribution, St_box, St_given, St_purse, St_guarantor, St_bid, St_away, St_taken, St_inside, St_paidForItself, St_paidForOthers, St_gotOfPot, St_shares, St_misses, St_debt, St_count_s, St_month_s, St_contribution_s, St_box_s, St_given_s, St_purse_s, St_guarantor_s, St_bid_s, St_away_s, St_taken_s, St_inside_s, St_paidForItself_s, St_paidForOthers_s, St_gotOfPot_s, St_shares_s, St_misses_s, St_debt_s, Rd_paid, Rd_missing, Rd_pence, Rd_paid_s, Rd_missing_s, Rd_pence_s, Md_thrown, Md_z, Md_past, Md_pastMany, Md_slots, Md_isSaved, Md_spare, Md_text, Md_typed, Md_hasPaid, Md_misses, Md_potNow, Md_read, Md_spot, Md_wrong, Md_thrown_s, Md_z_s, Md_past_s, Md_pastMany_s, Md_slots_s, Md_isSaved_s, Md_spare_s, Md_text_s, Md_typed_s, Md_hasPaid_s, Md_misses_s, Md_potNow_s, Md_read_s, Md_spot_s, Md_wrong_s, lt, bd_s, a1, b1]
  · have a2 : lp (b_X6_pay_11 co) FU ((0:Int32), (0:Int32), (th, (E c mo co bo gv pu gu bi aw ta ins pf po go sh ms de), past, pm, sl, sv, sp, tx, ty, hp, mi, pot, rd, spt, wr)) = some (nI t1, nI 8, (th, (E c mo co bo gv pu1 gu bi aw ta ins pf' po go sh ms de), past, pm, sl, sv, sp, tx, ty, hp', mi1, pot, rd, spt, wr)) := a2
    simp only [f_X6_pay, St_count, St_month, St_contribution, St_box, St_given, St_purse, St_guarantor, St_bid, St_away, St_taken, St_inside, St_paidForItself, St_paidForOthers, St_gotOfPot, St_shares, St_misses, St_debt, St_count_s, St_month_s, St_contribution_s, St_box_s, St_given_s, St_purse_s, St_guarantor_s, St_bid_s, St_away_s, St_taken_s, St_inside_s, St_paidForItself_s, St_paidForOthers_s, St_gotOfPot_s, St_shares_s, St_misses_s, St_debt_s, Rd_paid, Rd_missing, Rd_pence, Rd_paid_s, Rd_missing_s, Rd_pence_s, Md_thrown, Md_z, Md_past, Md_pastMany, Md_slots, Md_isSaved, Md_spare, Md_text, Md_typed, Md_hasPaid, Md_misses, Md_potNow, Md_read, Md_spot, Md_wrong, Md_thrown_s, Md_z_s, Md_past_s, Md_pastMany_s, Md_slots_s, Md_isSaved_s, Md_spare_s, Md_text_s, Md_typed_s, Md_hasPaid_s, Md_misses_s, Md_potNow_s, Md_read_s, Md_spot_s, Md_wrong_s, lt, bd_s, g1_157, c1, E_1, a2]
  · have b2 : lp (b_X6_payForOthers_11 co) FU ((0:Int32), (0:Int32), (th, (E c mo co bo gv pu1 gu bi aw ta ins pf' po go sh ms de), past, pm, sl, sv, sp, tx, ty, hp', mi1, pot, rd, spt, wr)) = some (nI t2, nI c, (th, (E c mo co bo gv pu' gu bi aw ta ins pf' po' go sh ms' de'), past, pm, sl, sv, sp, tx, ty, hp', mi', pot, rd, spt, wr)) := b2
    simp only [f_X6_payForOthers, St_count, St_month, St_contribution, St_box, St_given, St_purse, St_guarantor, St_bid, St_away, St_taken, St_inside, St_paidForItself, St_paidForOthers, St_gotOfPot, St_shares, St_misses, St_debt, St_count_s, St_month_s, St_contribution_s, St_box_s, St_given_s, St_purse_s, St_guarantor_s, St_bid_s, St_away_s, St_taken_s, St_inside_s, St_paidForItself_s, St_paidForOthers_s, St_gotOfPot_s, St_shares_s, St_misses_s, St_debt_s, Rd_paid, Rd_missing, Rd_pence, Rd_paid_s, Rd_missing_s, Rd_pence_s, Md_thrown, Md_z, Md_past, Md_pastMany, Md_slots, Md_isSaved, Md_spare, Md_text, Md_typed, Md_hasPaid, Md_misses, Md_potNow, Md_read, Md_spot, Md_wrong, Md_thrown_s, Md_z_s, Md_past_s, Md_pastMany_s, Md_slots_s, Md_isSaved_s, Md_spare_s, Md_text_s, Md_typed_s, Md_hasPaid_s, Md_misses_s, Md_potNow_s, Md_read_s, Md_spot_s, Md_wrong_s, lt, bd_s, g1_157, c1, E_1, b2]
  · have : c * 50 ≤ 400 := by omega
    omega
  · obtain ⟨k, c1, c2⟩ := h5 j hj
    exact ⟨k, by omega, c2⟩
/-- what a bid counts for -/
def cbd (p b : Int32) : Int32 := if p / (2:Int32) < b then p / (2:Int32) else b
theorem bid_x {i : Nat} (h : i < c) (hc : c ≤ 8) : f_X1_countedBid (pd, mg, pn) (nI c, mo, co, bo, gv, pu, gu, bi, aw, ta, ins, pf, po, go, sh, ms, de) (nI i) = some (cbd pn (bi i), ()) := by
  simp (disch := omega) only [f_X1_countedBid, St_count, St_month, St_contribution, St_box, St_given, St_purse, St_guarantor, St_bid, St_away, St_taken, St_inside, St_paidForItself, St_paidForOthers, St_gotOfPot, St_shares, St_misses, St_debt, St_count_s, St_month_s, St_contribution_s, St_box_s, St_given_s, St_purse_s, St_guarantor_s, St_bid_s, St_away_s, St_taken_s, St_inside_s, St_paidForItself_s, St_paidForOthers_s, St_gotOfPot_s, St_shares_s, St_misses_s, St_debt_s, Rd_paid, Rd_missing, Rd_pence, Rd_paid_s, Rd_missing_s, Rd_pence_s, Md_thrown, Md_z, Md_past, Md_pastMany, Md_slots, Md_isSaved, Md_spare, Md_text, Md_typed, Md_hasPaid, Md_misses, Md_potNow, Md_read, Md_spot, Md_wrong, Md_thrown_s, Md_z_s, Md_past_s, Md_pastMany_s, Md_slots_s, Md_isSaved_s, Md_spare_s, Md_text_s, Md_typed_s, Md_hasPaid_s, Md_misses_s, Md_potNow_s, Md_read_s, Md_spot_s, Md_wrong_s, mul8, mul8r, lt_e, bd_s, gi_ok, gz2, gz8, gz40, q_add, nI_s1, nI_clamp, upd_same, nar0, nar1, c0, c1, c2, c3, c4, g0_157, g1_157, g2_157, g3_157, g4_157, g0_1, a5, a13, a21, a29, a37, a45, a53, a61, a69, a77, a85, a93, cbd]
theorem bid_m {i : Nat} {p : Int32} (h : i < c) (hc : c ≤ 8) : f_X6_bidOf (th, (E c mo co bo gv pu gu bi aw ta ins pf po go sh ms de), past, pm, sl, sv, sp, tx, ty, hp, mi, pot, rd, spt, wr) (nI i) p = some (cbd p (bi i), ()) := by
  simp (disch := omega) only [f_X6_bidOf, St_count, St_month, St_contribution, St_box, St_given, St_purse, St_guarantor, St_bid, St_away, St_taken, St_inside, St_paidForItself, St_paidForOthers, St_gotOfPot, St_shares, St_misses, St_debt, St_count_s, St_month_s, St_contribution_s, St_box_s, St_given_s, St_purse_s, St_guarantor_s, St_bid_s, St_away_s, St_taken_s, St_inside_s, St_paidForItself_s, St_paidForOthers_s, St_gotOfPot_s, St_shares_s, St_misses_s, St_debt_s, Rd_paid, Rd_missing, Rd_pence, Rd_paid_s, Rd_missing_s, Rd_pence_s, Md_thrown, Md_z, Md_past, Md_pastMany, Md_slots, Md_isSaved, Md_spare, Md_text, Md_typed, Md_hasPaid, Md_misses, Md_potNow, Md_read, Md_spot, Md_wrong, Md_thrown_s, Md_z_s, Md_past_s, Md_pastMany_s, Md_slots_s, Md_isSaved_s, Md_spare_s, Md_text_s, Md_typed_s, Md_hasPaid_s, Md_misses_s, Md_potNow_s, Md_read_s, Md_spot_s, Md_wrong_s, mul8, mul8r, lt_e, bd_s, gi_ok, gz2, gz8, gz40, q_add, nI_s1, nI_clamp, upd_same, nar0, nar1, c0, c1, c2, c3, c4, g0_157, g1_157, g2_157, g3_157, g4_157, g0_1, a5, a13, a21, a29, a37, a45, a53, a61, a69, a77, a85, a93, E_0, E_1, E_2, E_3, E_4, E_pu, E_gu, E_bi, E_aw, E_ta, E_ins, E_pf, E_po, E_go, E_sh, E_ms, E_de, cbd]
  by_cases h : p / (2:Int32) < bi i
  · rw [if_pos h, if_neg (Int32.not_le.mpr h)]
  · rw [if_neg h, if_pos (Int32.not_lt.mp h)]
theorem part_x {i : Nat} (h : i < c) (hc : c ≤ 8) : f_X1_takesPart (pd, mg, pn) (nI c, mo, co, bo, gv, pu, gu, bi, aw, ta, ins, pf, po, go, sh, ms, de) (nI i) = some (if ins i = 0 then 0 else if mg i = 0 then 1 else 0, ()) := by
  simp (disch := omega) only [f_X1_takesPart, St_count, St_month, St_contribution, St_box, St_given, St_purse, St_guarantor, St_bid, St_away, St_taken, St_inside, St_paidForItself, St_paidForOthers, St_gotOfPot, St_shares, St_misses, St_debt, St_count_s, St_month_s, St_contribution_s, St_box_s, St_given_s, St_purse_s, St_guarantor_s, St_bid_s, St_away_s, St_taken_s, St_inside_s, St_paidForItself_s, St_paidForOthers_s, St_gotOfPot_s, St_shares_s, St_misses_s, St_debt_s, Rd_paid, Rd_missing, Rd_pence, Rd_paid_s, Rd_missing_s, Rd_pence_s, Md_thrown, Md_z, Md_past, Md_pastMany, Md_slots, Md_isSaved, Md_spare, Md_text, Md_typed, Md_hasPaid, Md_misses, Md_potNow, Md_read, Md_spot, Md_wrong, Md_thrown_s, Md_z_s, Md_past_s, Md_pastMany_s, Md_slots_s, Md_isSaved_s, Md_spare_s, Md_text_s, Md_typed_s, Md_hasPaid_s, Md_misses_s, Md_potNow_s, Md_read_s, Md_spot_s, Md_wrong_s, mul8, mul8r, lt_e, bd_s, gi_ok, gz2, gz8, gz40, q_add, nI_s1, nI_clamp, upd_same, nar0, nar1, c0, c1, c2, c3, c4, g0_157, g1_157, g2_157, g3_157, g4_157, g0_1, a5, a13, a21, a29, a37, a45, a53, a61, a69, a77, a85, a93]
  by_cases h1 : ins i = 0 <;> by_cases h2 : mg i = 0 <;> simp only [h1, h2, ↓reduceIte]
theorem part_m {i : Nat} (h : i < c) (hc : c ≤ 8) (hi : Bo c ins) (hm : mi i = mg i) : f_X6_takesPart (th, (E c mo co bo gv pu gu bi aw ta ins pf po go sh ms de), past, pm, sl, sv, sp, tx, ty, hp, mi, pot, rd, spt, wr) (nI i) = some (if ins i = 0 then 0 else if mg i = 0 then 1 else 0, ()) := by
  simp (disch := omega) only [f_X6_takesPart, St_count, St_month, St_contribution, St_box, St_given, St_purse, St_guarantor, St_bid, St_away, St_taken, St_inside, St_paidForItself, St_paidForOthers, St_gotOfPot, St_shares, St_misses, St_debt, St_count_s, St_month_s, St_contribution_s, St_box_s, St_given_s, St_purse_s, St_guarantor_s, St_bid_s, St_away_s, St_taken_s, St_inside_s, St_paidForItself_s, St_paidForOthers_s, St_gotOfPot_s, St_shares_s, St_misses_s, St_debt_s, Rd_paid, Rd_missing, Rd_pence, Rd_paid_s, Rd_missing_s, Rd_pence_s, Md_thrown, Md_z, Md_past, Md_pastMany, Md_slots, Md_isSaved, Md_spare, Md_text, Md_typed, Md_hasPaid, Md_misses, Md_potNow, Md_read, Md_spot, Md_wrong, Md_thrown_s, Md_z_s, Md_past_s, Md_pastMany_s, Md_slots_s, Md_isSaved_s, Md_spare_s, Md_text_s, Md_typed_s, Md_hasPaid_s, Md_misses_s, Md_potNow_s, Md_read_s, Md_spot_s, Md_wrong_s, mul8, mul8r, lt_e, bd_s, gi_ok, gz2, gz8, gz40, q_add, nI_s1, nI_clamp, upd_same, nar0, nar1, c0, c1, c2, c3, c4, g0_157, g1_157, g2_157, g3_157, g4_157, g0_1, a5, a13, a21, a29, a37, a45, a53, a61, a69, a77, a85, a93, E_0, E_1, E_2, E_3, E_4, E_pu, E_gu, E_bi, E_aw, E_ta, E_ins, E_pf, E_po, E_go, E_sh, E_ms, E_de, hm]
  rcases hi i h with h1 | h1 <;> by_cases h2 : mg i = 0 <;> simp only [h1, h2, z_ne, o_ne, ↓reduceIte]
theorem can_x {i : Nat} (h : i < c) (hc : c ≤ 8) : f_X1_canTake (pd, mg, pn) (nI c, mo, co, bo, gv, pu, gu, bi, aw, ta, ins, pf, po, go, sh, ms, de) (nI i) = some (if ins i = 0 then 0 else if mg i = 0 then (if ta i = 0 then 1 else 0) else 0, ()) := by
  rw [f_X1_canTake, part_x h hc]
  simp (disch := omega) only [St_count, St_month, St_contribution, St_box, St_given, St_purse, St_guarantor, St_bid, St_away, St_taken, St_inside, St_paidForItself, St_paidForOthers, St_gotOfPot, St_shares, St_misses, St_debt, St_count_s, St_month_s, St_contribution_s, St_box_s, St_given_s, St_purse_s, St_guarantor_s, St_bid_s, St_away_s, St_taken_s, St_inside_s, St_paidForItself_s, St_paidForOthers_s, St_gotOfPot_s, St_shares_s, St_misses_s, St_debt_s, Rd_paid, Rd_missing, Rd_pence, Rd_paid_s, Rd_missing_s, Rd_pence_s, Md_thrown, Md_z, Md_past, Md_pastMany, Md_slots, Md_isSaved, Md_spare, Md_text, Md_typed, Md_hasPaid, Md_misses, Md_potNow, Md_read, Md_spot, Md_wrong, Md_thrown_s, Md_z_s, Md_past_s, Md_pastMany_s, Md_slots_s, Md_isSaved_s, Md_spare_s, Md_text_s, Md_typed_s, Md_hasPaid_s, Md_misses_s, Md_potNow_s, Md_read_s, Md_spot_s, Md_wrong_s, mul8, mul8r, lt_e, bd_s, gi_ok, gz2, gz8, gz40, q_add, nI_s1, nI_clamp, upd_same, nar0, nar1, c0, c1, c2, c3, c4, g0_157, g1_157, g2_157, g3_157, g4_157, g0_1, a5, a13, a21, a29, a37, a45, a53, a61, a69, a77, a85, a93]
  by_cases h1 : ins i = 0 <;> by_cases h2 : mg i = 0 <;> by_cases h3 : ta i = 0 <;> simp only [h1, h2, h3, z_ne, o_ne, ↓reduceIte]
/-- the taker: over the members in their order from the one that is first -/
def cnT (ins mg ta : Nat → Int32) (i : Nat) : Bool := ins i == 1 && mg i == 0 && ta i == 0
def tkB (can : Nat → Bool) (cb : Nat → Int32) (b : Int32) (i : Nat) : Int32 := if can i = true then (if b = (-99999:Int32) then nI i else if cb i ≤ cb b.toNatClampNeg then b else nI i) else b
def tkS (can : Nat → Bool) (cb : Nat → Int32) (p c : Nat) : Nat → Int32
  | 0 => (-99999:Int32)
  | k + 1 => tkB can cb (tkS can cb p c k) ((p + k) % c)
theorem tkS_is {can : Nat → Bool} {cb : Nat → Int32} {p c : Nat} (hc : 0 < c) : ∀ k, tkS can cb p c k = (-99999:Int32) ∨ ∃ j, j < c ∧ can j = true ∧ tkS can cb p c k = nI j
  | 0 => Or.inl rfl
  | k + 1 => by
    have hm : (p + k) % c < c := Nat.mod_lt _ hc
    unfold tkS tkB
    by_cases h1 : can ((p + k) % c) = true
    · rw [if_pos h1]
      by_cases h2 : tkS can cb p c k = (-99999:Int32)
      · rw [if_pos h2]; exact Or.inr ⟨_, hm, h1, rfl⟩
      · rw [if_neg h2]
        split
        · exact tkS_is hc k
        · exact Or.inr ⟨_, hm, h1, rfl⟩
    · rw [if_neg h1]; exact tkS_is hc k
theorem cnT_no {mg ta : Nat → Int32} {i : Nat} (h : ins i = 0 ∨ mg i = 1 ∨ ta i = 1) : cnT ins mg ta i = false := by
  unfold cnT
  rcases h with h | h | h <;> rw [h] <;> simp
theorem cnT_yes {mg ta : Nat → Int32} {i : Nat} (h : ins i = 1) (h1 : mg i = 0) (h2 : ta i = 0) : cnT ins mg ta i = true := by
  unfold cnT
  rw [h, h1, h2]; rfl
theorem nI_sub {a b : Nat} (h : b ≤ a) : nI a - nI b = nI (a - b) := (Int32.ofNat_sub a b h).symm
theorem nI_div {a b : Nat} (ha : a < 2147483648) (hb : b < 2147483648) : nI a / nI b = nI (a / b) := (Int32.ofNat_div (by simpa using ha) (by simpa using hb)).symm
theorem nI_rem {a b : Nat} (ha : a < 2147483648) (hb : b < 2147483648) : nI a - nI a / nI b * nI b = nI (a % b) := by
  rw [nI_div ha hb, q_mul, nI_sub (Nat.div_mul_le_self a b)]
  congr 1
  have := Nat.div_add_mod a b
  rw [Nat.mul_comm] at this
  omega
theorem mod_wrap {p k c : Nat} (hp : p < c) (hk : k < c) (h : c ≤ p + k) : (p + k) % c = p + k - c := by
  rw [Nat.mod_eq_sub_mod h, Nat.mod_eq_of_lt (by omega)]
theorem take_x (hc : c ≤ 8) (hi : Bo c ins) (ht : Bo c ta) (hm : ∀ j, j < c → (mg j = 0 ∨ mg j = 1)) {p : Nat} (hp : p < c ∨ c = 0) : One (lp (b_X1_taker_27 (pd, mg, pn) (nI c, mo, co, bo, gv, pu, gu, bi, aw, ta, ins, pf, po, go, sh, ms, de) (nI p)) FU ((-99999:Int32), nI 0)) (fun e => e = (tkS (cnT ins mg ta) (fun i => cbd pn (bi i)) p c c, nI c)) := by
  refine lp_one (fun n s => ∃ k, s = (tkS (cnT ins mg ta) (fun i => cbd pn (bi i)) p c k, nI k) ∧ k ≤ c ∧ n = c - k) _ ?_ (n := c) ⟨0, rfl, by omega, by omega⟩ (FU_gt (by omega))
  rintro n s ⟨k, rfl, h1, rfl⟩ J hJ
  by_cases h : k = c
  · subst h
    simp (disch := omega) only [b_X1_taker_27, St_count, St_month, St_contribution, St_box, St_given, St_purse, St_guarantor, St_bid, St_away, St_taken, St_inside, St_paidForItself, St_paidForOthers, St_gotOfPot, St_shares, St_misses, St_debt, St_count_s, St_month_s, St_contribution_s, St_box_s, St_given_s, St_purse_s, St_guarantor_s, St_bid_s, St_away_s, St_taken_s, St_inside_s, St_paidForItself_s, St_paidForOthers_s, St_gotOfPot_s, St_shares_s, St_misses_s, St_debt_s, Rd_paid, Rd_missing, Rd_pence, Rd_paid_s, Rd_missing_s, Rd_pence_s, Md_thrown, Md_z, Md_past, Md_pastMany, Md_slots, Md_isSaved, Md_spare, Md_text, Md_typed, Md_hasPaid, Md_misses, Md_potNow, Md_read, Md_spot, Md_wrong, Md_thrown_s, Md_z_s, Md_past_s, Md_pastMany_s, Md_slots_s, Md_isSaved_s, Md_spare_s, Md_text_s, Md_typed_s, Md_hasPaid_s, Md_misses_s, Md_potNow_s, Md_read_s, Md_spot_s, Md_wrong_s, mul8, mul8r, lt_e, bd_s, gi_ok, gz2, gz8, gz40, q_add, nI_s1, nI_clamp, upd_same, nar0, nar1, c0, c1, c2, c3, c4, g0_157, g1_157, g2_157, g3_157, g4_157, g0_1, a5, a13, a21, a29, a37, a45, a53, a61, a69, a77, a85, a93, nI_lei, Nat.le_refl, ↓reduceIte]
    rfl
  · have hk : k < c := by omega
    have hpc : p < c := by omega
    have nk : ¬ c ≤ k := by omega
    have next : J (tkB (cnT ins mg ta) (fun i => cbd pn (bi i)) (tkS (cnT ins mg ta) (fun i => cbd pn (bi i)) p c k) ((p + k) % c), nI (k + 1)) := hJ _ _ (by omega) ⟨k + 1, rfl, by omega, rfl⟩
    have hb := tkS_is (can := cnT ins mg ta) (cb := fun i => cbd pn (bi i)) (p := p) (c := c) (by omega) k
    generalize tkS (cnT ins mg ta) (fun i => cbd pn (bi i)) p c k = b at next hb ⊢
    have key : ∀ i, i < c → i = (p + k) % c → Sto (bd (f_X1_canTake (pd, mg, pn) (nI c, mo, co, bo, gv, pu, gu, bi, aw, ta, ins, pf, po, go, sh, ms, de) (nI i)) (fun (q5 : Int32 × (Unit)) => (if q5.1 = (0:Int32) then some (Sum.inl (b, nI (k + 1))) else (if b = (-99999:Int32) then some (Sum.inl (nI i, nI (k + 1))) else bd (f_X1_countedBid (pd, mg, pn) (nI c, mo, co, bo, gv, pu, gu, bi, aw, ta, ins, pf, po, go, sh, ms, de) (nI i)) (fun (q10 : Int32 × (Unit)) => bd (f_X1_countedBid (pd, mg, pn) (nI c, mo, co, bo, gv, pu, gu, bi, aw, ta, ins, pf, po, go, sh, ms, de) b) (fun (q11 : Int32 × (Unit)) => (if q10.1 ≤ q11.1 then some (Sum.inl (b, nI (k + 1))) else some (Sum.inl (nI i, nI (k + 1)))))))))) J (fun e => e = (tkS (cnT ins mg ta) (fun i => cbd pn (bi i)) p c c, nI c)) := by
      intro i hic he
      rw [← he] at next
      rw [can_x hic hc]
      unfold tkB at next
      rcases hi i hic with e1 | e1
      · simp only [bd_s, e1, ↓reduceIte]
        rw [if_neg (by rw [cnT_no (Or.inl e1)]; decide)] at next
        exact next
      · rcases hm i hic with e2 | e2
        · rcases ht i hic with e3 | e3
          · rw [if_pos (cnT_yes e1 e2 e3)] at next
            rcases hb with rfl | ⟨j, hj, -, rfl⟩
            · simp only [bd_s, e1, e2, e3, z_ne, o_ne, ↓reduceIte] at next ⊢
              exact next
            · simp (disch := omega) only [bd_s, e1, e2, e3, z_ne, o_ne, nI_neg, nI_clamp, bid_x, ↓reduceIte] at next ⊢
              by_cases h5 : cbd pn (bi i) ≤ cbd pn (bi j)
              · rw [if_pos h5] at next ⊢; exact next
              · rw [if_neg h5] at next ⊢; exact next
          · simp only [bd_s, e1, e2, e3, z_ne, o_ne, ↓reduceIte]
            rw [if_neg (by rw [cnT_no (Or.inr (Or.inr e3))]; decide)] at next
            exact next
        · simp only [bd_s, e1, e2, z_ne, o_ne, ↓reduceIte]
          rw [if_neg (by rw [cnT_no (Or.inr (Or.inl e2))]; decide)] at next
          exact next
    by_cases h5 : c ≤ p + k
    · simp (disch := omega) only [b_X1_taker_27, St_count, St_month, St_contribution, St_box, St_given, St_purse, St_guarantor, St_bid, St_away, St_taken, St_inside, St_paidForItself, St_paidForOthers, St_gotOfPot, St_shares, St_misses, St_debt, St_count_s, St_month_s, St_contribution_s, St_box_s, St_given_s, St_purse_s, St_guarantor_s, St_bid_s, St_away_s, St_taken_s, St_inside_s, St_paidForItself_s, St_paidForOthers_s, St_gotOfPot_s, St_shares_s, St_misses_s, St_debt_s, Rd_paid, Rd_missing, Rd_pence, Rd_paid_s, Rd_missing_s, Rd_pence_s, Md_thrown, Md_z, Md_past, Md_pastMany, Md_slots, Md_isSaved, Md_spare, Md_text, Md_typed, Md_hasPaid, Md_misses, Md_potNow, Md_read, Md_spot, Md_wrong, Md_thrown_s, Md_z_s, Md_past_s, Md_pastMany_s, Md_slots_s, Md_isSaved_s, Md_spare_s, Md_text_s, Md_typed_s, Md_hasPaid_s, Md_misses_s, Md_potNow_s, Md_read_s, Md_spot_s, Md_wrong_s, lt, q_add, nI_s1, nI_lei, nI_sub, nk, h5, ↓reduceIte]
      exact key (p + k - c) (by omega) (mod_wrap hpc hk h5).symm
    · simp (disch := omega) only [b_X1_taker_27, St_count, St_month, St_contribution, St_box, St_given, St_purse, St_guarantor, St_bid, St_away, St_taken, St_inside, St_paidForItself, St_paidForOthers, St_gotOfPot, St_shares, St_misses, St_debt, St_count_s, St_month_s, St_contribution_s, St_box_s, St_given_s, St_purse_s, St_guarantor_s, St_bid_s, St_away_s, St_taken_s, St_inside_s, St_paidForItself_s, St_paidForOthers_s, St_gotOfPot_s, St_shares_s, St_misses_s, St_debt_s, Rd_paid, Rd_missing, Rd_pence, Rd_paid_s, Rd_missing_s, Rd_pence_s, Md_thrown, Md_z, Md_past, Md_pastMany, Md_slots, Md_isSaved, Md_spare, Md_text, Md_typed, Md_hasPaid, Md_misses, Md_potNow, Md_read, Md_spot, Md_wrong, Md_thrown_s, Md_z_s, Md_past_s, Md_pastMany_s, Md_slots_s, Md_isSaved_s, Md_spare_s, Md_text_s, Md_typed_s, Md_hasPaid_s, Md_misses_s, Md_potNow_s, Md_read_s, Md_spot_s, Md_wrong_s, lt, q_add, nI_s1, nI_lei, nk, h5, ↓reduceIte]
      exact key (p + k) (by omega) (Nat.mod_eq_of_lt (by omega)).symm
theorem taker_x (hc : c ≤ 8) (hi : Bo c ins) (ht : Bo c ta) (hm : ∀ j, j < c → (mg j = 0 ∨ mg j = 1)) {m : Nat} (hmo : mo = nI m) (hml : m ≤ 2000) : f_X1_taker (pd, mg, pn) (nI c, mo, co, bo, gv, pu, gu, bi, aw, ta, ins, pf, po, go, sh, ms, de) = some (tkS (cnT ins mg ta) (fun i => cbd pn (bi i)) (m % c) c c, ()) := by
  subst hmo
  by_cases h0 : c = 0
  · subst h0
    obtain ⟨e, h1, rfl⟩ := on_get (take_x (mo := nI m) (co := co) (bo := bo) (gv := gv) (pu := pu) (gu := gu) (bi := bi) (aw := aw) (pf := pf) (po := po) (go := go) (sh := sh) (ms := ms) (de := de) (pd := pd) (pn := pn) hc hi ht hm (p := 0) (Or.inr rfl))
    have h1 : lp (b_X1_taker_27 (pd, mg, pn) (nI 0, nI m, co, bo, gv, pu, gu, bi, aw, ta, ins, pf, po, go, sh, ms, de) (0:Int32)) FU ((-99999:Int32), (0:Int32)) = _ := h1
    simp (disch := omega) only [f_X1_taker, St_count, St_month, St_contribution, St_box, St_given, St_purse, St_guarantor, St_bid, St_away, St_taken, St_inside, St_paidForItself, St_paidForOthers, St_gotOfPot, St_shares, St_misses, St_debt, St_count_s, St_month_s, St_contribution_s, St_box_s, St_given_s, St_purse_s, St_guarantor_s, St_bid_s, St_away_s, St_taken_s, St_inside_s, St_paidForItself_s, St_paidForOthers_s, St_gotOfPot_s, St_shares_s, St_misses_s, St_debt_s, Rd_paid, Rd_missing, Rd_pence, Rd_paid_s, Rd_missing_s, Rd_pence_s, Md_thrown, Md_z, Md_past, Md_pastMany, Md_slots, Md_isSaved, Md_spare, Md_text, Md_typed, Md_hasPaid, Md_misses, Md_potNow, Md_read, Md_spot, Md_wrong, Md_thrown_s, Md_z_s, Md_past_s, Md_pastMany_s, Md_slots_s, Md_isSaved_s, Md_spare_s, Md_text_s, Md_typed_s, Md_hasPaid_s, Md_misses_s, Md_potNow_s, Md_read_s, Md_spot_s, Md_wrong_s, ge0, Nat.le_refl, ↓reduceIte, h1, bd_s]
    rfl
  · obtain ⟨e, h1, rfl⟩ := on_get (take_x (mo := nI m) (co := co) (bo := bo) (gv := gv) (pu := pu) (gu := gu) (bi := bi) (aw := aw) (pf := pf) (po := po) (go := go) (sh := sh) (ms := ms) (de := de) (pd := pd) (pn := pn) hc hi ht hm (p := m % c) (Or.inl (Nat.mod_lt _ (by omega))))
    have h1 : lp (b_X1_taker_27 (pd, mg, pn) (nI c, nI m, co, bo, gv, pu, gu, bi, aw, ta, ins, pf, po, go, sh, ms, de) (nI (m % c))) FU ((-99999:Int32), (0:Int32)) = _ := h1
    have n0 : ¬ c ≤ 0 := by omega
    have nz : ¬ nI c = 0 := by
      intro h
      exact h0 ((nI_inj (b := 0) (by omega) (by omega)).mp h)
    simp (disch := omega) only [f_X1_taker, St_count, St_month, St_contribution, St_box, St_given, St_purse, St_guarantor, St_bid, St_away, St_taken, St_inside, St_paidForItself, St_paidForOthers, St_gotOfPot, St_shares, St_misses, St_debt, St_count_s, St_month_s, St_contribution_s, St_box_s, St_given_s, St_purse_s, St_guarantor_s, St_bid_s, St_away_s, St_taken_s, St_inside_s, St_paidForItself_s, St_paidForOthers_s, St_gotOfPot_s, St_shares_s, St_misses_s, St_debt_s, Rd_paid, Rd_missing, Rd_pence, Rd_paid_s, Rd_missing_s, Rd_pence_s, Md_thrown, Md_z, Md_past, Md_pastMany, Md_slots, Md_isSaved, Md_spare, Md_text, Md_typed, Md_hasPaid, Md_misses, Md_potNow, Md_read, Md_spot, Md_wrong, Md_thrown_s, Md_z_s, Md_past_s, Md_pastMany_s, Md_slots_s, Md_isSaved_s, Md_spare_s, Md_text_s, Md_typed_s, Md_hasPaid_s, Md_misses_s, Md_potNow_s, Md_read_s, Md_spot_s, Md_wrong_s, lt, ge0, gz, n0, nz, nI_rem, ↓reduceIte, h1, bd_s]
theorem take_m (hc : c ≤ 8) (hi : Bo c ins) (ht : Bo c ta) (hm : ∀ j, j < c → (mi j = mg j ∧ (mg j = 0 ∨ mg j = 1))) {m : Nat} (hmo : mo = nI m) (hml : m ≤ 2000) {p : Int32} : f_X6_taker (th, (E c mo co bo gv pu gu bi aw ta ins pf po go sh ms de), past, pm, sl, sv, sp, tx, ty, hp, mi, pot, rd, spt, wr) p = some (tkS (cnT ins mg ta) (fun i => cbd p (bi i)) (m % c) c c, ()) := by
  subst hmo
  have L : One (lp (b_X6_taker_5 (th, (E c (nI m) co bo gv pu gu bi aw ta ins pf po go sh ms de), past, pm, sl, sv, sp, tx, ty, hp, mi, pot, rd, spt, wr) p) FU ((-99999:Int32), nI 0)) (fun e => e = (tkS (cnT ins mg ta) (fun i => cbd p (bi i)) (m % c) c c, nI c)) := by
    refine lp_one (fun n s => ∃ k, s = (tkS (cnT ins mg ta) (fun i => cbd p (bi i)) (m % c) c k, nI k) ∧ k ≤ c ∧ n = c - k) _ ?_ (n := c) ⟨0, rfl, by omega, by omega⟩ (FU_gt (by omega))
    rintro n s ⟨k, rfl, h1, rfl⟩ J hJ
    by_cases h : k = c
    · subst h
      simp (disch := omega) only [b_X6_taker_5, St_count, St_month, St_contribution, St_box, St_given, St_purse, St_guarantor, St_bid, St_away, St_taken, St_inside, St_paidForItself, St_paidForOthers, St_gotOfPot, St_shares, St_misses, St_debt, St_count_s, St_month_s, St_contribution_s, St_box_s, St_given_s, St_purse_s, St_guarantor_s, St_bid_s, St_away_s, St_taken_s, St_inside_s, St_paidForItself_s, St_paidForOthers_s, St_gotOfPot_s, St_shares_s, St_misses_s, St_debt_s, Rd_paid, Rd_missing, Rd_pence, Rd_paid_s, Rd_missing_s, Rd_pence_s, Md_thrown, Md_z, Md_past, Md_pastMany, Md_slots, Md_isSaved, Md_spare, Md_text, Md_typed, Md_hasPaid, Md_misses, Md_potNow, Md_read, Md_spot, Md_wrong, Md_thrown_s, Md_z_s, Md_past_s, Md_pastMany_s, Md_slots_s, Md_isSaved_s, Md_spare_s, Md_text_s, Md_typed_s, Md_hasPaid_s, Md_misses_s, Md_potNow_s, Md_read_s, Md_spot_s, Md_wrong_s, mul8, mul8r, lt_e, bd_s, gi_ok, gz2, gz8, gz40, q_add, nI_s1, nI_clamp, upd_same, nar0, nar1, c0, c1, c2, c3, c4, g0_157, g1_157, g2_157, g3_157, g4_157, g0_1, a5, a13, a21, a29, a37, a45, a53, a61, a69, a77, a85, a93, E_0, nI_lei, Nat.le_refl, ↓reduceIte]
      rfl
    · have hk : k < c := by omega
      have nk : ¬ c ≤ k := by omega
      have nz : ¬ nI c = 0 := by
        intro h
        have := (nI_inj (b := 0) (by omega) (by omega)).mp h
        omega
      have next : J (tkB (cnT ins mg ta) (fun i => cbd p (bi i)) (tkS (cnT ins mg ta) (fun i => cbd p (bi i)) (m % c) c k) ((m % c + k) % c), nI (k + 1)) := hJ _ _ (by omega) ⟨k + 1, rfl, by omega, rfl⟩
      have hb := tkS_is (can := cnT ins mg ta) (cb := fun i => cbd p (bi i)) (p := m % c) (c := c) (by omega) k
      generalize tkS (cnT ins mg ta) (fun i => cbd p (bi i)) (m % c) c k = b at next hb ⊢
      rw [Nat.mod_add_mod] at next
      have hic : (m + k) % c < c := Nat.mod_lt _ (by omega)
      simp (disch := omega) only [b_X6_taker_5, St_count, St_month, St_contribution, St_box, St_given, St_purse, St_guarantor, St_bid, St_away, St_taken, St_inside, St_paidForItself, St_paidForOthers, St_gotOfPot, St_shares, St_misses, St_debt, St_count_s, St_month_s, St_contribution_s, St_box_s, St_given_s, St_purse_s, St_guarantor_s, St_bid_s, St_away_s, St_taken_s, St_inside_s, St_paidForItself_s, St_paidForOthers_s, St_gotOfPot_s, St_shares_s, St_misses_s, St_debt_s, Rd_paid, Rd_missing, Rd_pence, Rd_paid_s, Rd_missing_s, Rd_pence_s, Md_thrown, Md_z, Md_past, Md_pastMany, Md_slots, Md_isSaved, Md_spare, Md_text, Md_typed, Md_hasPaid, Md_misses, Md_potNow, Md_read, Md_spot, Md_wrong, Md_thrown_s, Md_z_s, Md_past_s, Md_pastMany_s, Md_slots_s, Md_isSaved_s, Md_spare_s, Md_text_s, Md_typed_s, Md_hasPaid_s, Md_misses_s, Md_potNow_s, Md_read_s, Md_spot_s, Md_wrong_s, lt, gz, nz, g0_157, g2_157, c0, c2, E_0, E_2, q_add, nI_s1, nI_lei, nk, nI_rem, ↓reduceIte]
      generalize (m + k) % c = i at next hic ⊢
      rw [part_m hic hc hi (hm i hic).1]
      unfold tkB at next
      rcases hi i hic with e1 | e1
      · simp only [bd_s, e1, ↓reduceIte]
        rw [if_neg (by rw [cnT_no (Or.inl e1)]; decide)] at next
        exact next
      · rcases (hm i hic).2 with e2 | e2
        · rcases ht i hic with e3 | e3
          · rw [if_pos (cnT_yes e1 e2 e3)] at next
            rcases hb with rfl | ⟨j, hj, -, rfl⟩
            · simp (disch := omega) only [bd_s, mul8, mul8r, lt_e, bd_s, gi_ok, gz2, gz8, gz40, q_add, nI_s1, nI_clamp, upd_same, nar0, nar1, c0, c1, c2, c3, c4, g0_157, g1_157, g2_157, g3_157, g4_157, g0_1, a5, a13, a21, a29, a37, a45, a53, a61, a69, a77, a85, a93, E_0, E_1, E_2, E_3, E_4, E_pu, E_gu, E_bi, E_aw, E_ta, E_ins, E_pf, E_po, E_go, E_sh, E_ms, E_de, e1, e2, e3, z_ne, o_ne, ↓reduceIte] at next ⊢
              exact next
            · simp (disch := omega) only [bd_s, mul8, mul8r, lt_e, bd_s, gi_ok, gz2, gz8, gz40, q_add, nI_s1, nI_clamp, upd_same, nar0, nar1, c0, c1, c2, c3, c4, g0_157, g1_157, g2_157, g3_157, g4_157, g0_1, a5, a13, a21, a29, a37, a45, a53, a61, a69, a77, a85, a93, E_0, E_1, E_2, E_3, E_4, E_pu, E_gu, E_bi, E_aw, E_ta, E_ins, E_pf, E_po, E_go, E_sh, E_ms, E_de, e1, e2, e3, z_ne, o_ne, nI_neg, nI_clamp, bid_m, ↓reduceIte] at next ⊢
              by_cases h5 : cbd p (bi i) ≤ cbd p (bi j)
              · rw [if_pos h5] at next ⊢; exact next
              · rw [if_neg h5] at next ⊢; exact next
          · simp (disch := omega) only [bd_s, mul8, mul8r, lt_e, bd_s, gi_ok, gz2, gz8, gz40, q_add, nI_s1, nI_clamp, upd_same, nar0, nar1, c0, c1, c2, c3, c4, g0_157, g1_157, g2_157, g3_157, g4_157, g0_1, a5, a13, a21, a29, a37, a45, a53, a61, a69, a77, a85, a93, E_0, E_1, E_2, E_3, E_4, E_pu, E_gu, E_bi, E_aw, E_ta, E_ins, E_pf, E_po, E_go, E_sh, E_ms, E_de, e1, e2, e3, z_ne, o_ne, ↓reduceIte]
            rw [if_neg (by rw [cnT_no (Or.inr (Or.inr e3))]; decide)] at next
            exact next
        · simp (disch := omega) only [bd_s, mul8, mul8r, lt_e, bd_s, gi_ok, gz2, gz8, gz40, q_add, nI_s1, nI_clamp, upd_same, nar0, nar1, c0, c1, c2, c3, c4, g0_157, g1_157, g2_157, g3_157, g4_157, g0_1, a5, a13, a21, a29, a37, a45, a53, a61, a69, a77, a85, a93, E_0, E_1, E_2, E_3, E_4, E_pu, E_gu, E_bi, E_aw, E_ta, E_ins, E_pf, E_po, E_go, E_sh, E_ms, E_de, e1, e2, z_ne, o_ne, ↓reduceIte]
          rw [if_neg (by rw [cnT_no (Or.inr (Or.inl e2))]; decide)] at next
          exact next
  obtain ⟨e, h1, rfl⟩ := on_get L
  have h1 : lp (b_X6_taker_5 (th, (E c (nI m) co bo gv pu gu bi aw ta ins pf po go sh ms de), past, pm, sl, sv, sp, tx, ty, hp, mi, pot, rd, spt, wr) p) FU ((-99999:Int32), (0:Int32)) = _ := h1
  simp only [f_X6_taker, h1, bd_s]
end TAKE
