/-! what would be, beside each other -/
section TRY
variable {th : Int32} {z past : Nat → Int32} {pm : Int32} {sl sv sp tx : Nat → Int32} {ty : Int32} {hp mi : Nat → Int32} {pot : Int32} {rd : Nat → Int32} {spt wr : Int32}
variable {c m : Nat} {v : StV}
theorem Gs.ins (g : Gs c m v z) {a : Nat} (ha : a < c) : z (45 + a) = St_inside v a ∧ (St_inside v a = 0 ∨ St_inside v a = 1) := by
  obtain ⟨mo, co, bo, gv, pu, gu, bi, aw, ta, ins, pf, po, go, sh, ms, de, rfl, rfl, ok⟩ := g
  exact ⟨E_ins ha ok.1, ok.2.2.2.2.2.2.2.1 a ha⟩
theorem Gs.tak (g : Gs c m v z) {a : Nat} (ha : a < c) : z (37 + a) = St_taken v a ∧ (St_taken v a = 0 ∨ St_taken v a = 1) := by
  obtain ⟨mo, co, bo, gv, pu, gu, bi, aw, ta, ins, pf, po, go, sh, ms, de, rfl, rfl, ok⟩ := g
  exact ⟨E_ta ha ok.1, ok.2.2.2.2.2.2.1 a ha⟩
theorem Gs.away (g : Gs c m v z) {a : Nat} (ha : a < c) {x : Int32} (hx : x = 0 ∨ x = 1) : Gs c m (St_away_s v (upd (St_away v) a x)) (upd z (29 + a) x) := by
  obtain ⟨mo, co, bo, gv, pu, gu, bi, aw, ta, ins, pf, po, go, sh, ms, de, rfl, rfl, ok⟩ := g
  obtain ⟨o1, o2, o3, o4, o5, o6, o7⟩ := ok
  exact ⟨mo, co, bo, gv, pu, gu, bi, upd aw a x, ta, ins, pf, po, go, sh, ms, de, rfl, U_aw ha o1, o1, o2, o3, o4, o5, o6.upd hx, o7⟩
theorem Gs.bidded (g : Gs c m v z) {a : Nat} (ha : a < c) {x : Nat} (hx : x ≤ 999) : Gs c m (St_bid_s v (upd (St_bid v) a (nI x))) (upd z (21 + a) (nI x)) := by
  obtain ⟨mo, co, bo, gv, pu, gu, bi, aw, ta, ins, pf, po, go, sh, ms, de, rfl, rfl, ok⟩ := g
  obtain ⟨o1, o2, o3, o4, o5, o6⟩ := ok
  exact ⟨mo, co, bo, gv, pu, gu, upd bi a (nI x), aw, ta, ins, pf, po, go, sh, ms, de, rfl, U_bi ha o1, o1, o2, o3, o4, o5.upd hx, o6⟩
theorem try_winner (hv : Now v z) (t0 : StV) (r : RdV) : ∃ a b, f_X5_winner v t0 r = some a ∧ f_X6_winner (th, z, past, pm, sl, sv, sp, tx, ty, hp, mi, pot, rd, spt, wr) = some b ∧ a.1 = b.1 ∧ ∃ t sp' hp' mi' pot', b.2 = (t, z, past, pm, sl, sv, sp', tx, ty, hp', mi', pot', rd, spt, wr) := by
  obtain ⟨c, m, hm, g⟩ := hv
  obtain ⟨t, e1, g1⟩ := g.copy t0
  obtain ⟨sp', e2, hs⟩ := aside_f (th := (0:Int32)) (z := z) (past := past) (pm := pm) (sl := sl) (sv := sv) (sp := sp) (tx := tx) (ty := ty) (hp := hp) (mi := mi) (pot := pot) (rd := rd) (spt := spt) (wr := wr)
  obtain ⟨w, r', v', z', hp', mi', v1, e3, e4, g2, -, -⟩ := g1.pass (r := r) (th := (0:Int32)) (past := past) (pm := pm) (sl := sl) (sv := sv) (sp := sp') (tx := tx) (ty := ty) (hp := hp) (mi := mi) (pot := pot) (rd := rd) (spt := spt) (wr := wr) (by omega)
  have e5 := back_f (th := (0:Int32)) (z := z') (past := past) (pm := pm) (sl := sl) (sv := sv) (sp := sp') (tx := tx) (ty := ty) (hp := hp') (mi := mi') (pot := Rd_pence r') (rd := rd) (spt := spt) (wr := wr) hs (g2.zero g)
  refine ⟨(w, (v', r')), (w, (0, z, past, pm, sl, sv, sp', tx, ty, hp', mi', Rd_pence r', rd, spt, wr)), ?_, ?_, rfl, 0, sp', hp', mi', Rd_pence r', rfl⟩
  · simp only [f_X5_winner, e1, e3, bd_s]
  · simp only [f_X6_winner, St_count, St_month, St_contribution, St_box, St_given, St_purse, St_guarantor, St_bid, St_away, St_taken, St_inside, St_paidForItself, St_paidForOthers, St_gotOfPot, St_shares, St_misses, St_debt, St_count_s, St_month_s, St_contribution_s, St_box_s, St_given_s, St_purse_s, St_guarantor_s, St_bid_s, St_away_s, St_taken_s, St_inside_s, St_paidForItself_s, St_paidForOthers_s, St_gotOfPot_s, St_shares_s, St_misses_s, St_debt_s, Rd_paid, Rd_missing, Rd_pence, Rd_paid_s, Rd_missing_s, Rd_pence_s, Md_thrown, Md_z, Md_past, Md_pastMany, Md_slots, Md_isSaved, Md_spare, Md_text, Md_typed, Md_hasPaid, Md_misses, Md_potNow, Md_read, Md_spot, Md_wrong, Md_thrown_s, Md_z_s, Md_past_s, Md_pastMany_s, Md_slots_s, Md_isSaved_s, Md_spare_s, Md_text_s, Md_typed_s, Md_hasPaid_s, Md_misses_s, Md_potNow_s, Md_read_s, Md_spot_s, Md_wrong_s, lt_e, e2, e4, e5, bd_s]
theorem try_pot (hv : Now v z) (t0 : StV) (r : RdV) : ∃ a b, f_X5_pot v t0 r = some a ∧ f_X6_pot (th, z, past, pm, sl, sv, sp, tx, ty, hp, mi, pot, rd, spt, wr) = some b ∧ a.1 = b.1 ∧ ∃ t sp' hp' mi' pot', b.2 = (t, z, past, pm, sl, sv, sp', tx, ty, hp', mi', pot', rd, spt, wr) := by
  obtain ⟨c, m, hm, g⟩ := hv
  obtain ⟨t, e1, g1⟩ := g.copy t0
  obtain ⟨sp', e2, hs⟩ := aside_f (th := (0:Int32)) (z := z) (past := past) (pm := pm) (sl := sl) (sv := sv) (sp := sp) (tx := tx) (ty := ty) (hp := hp) (mi := mi) (pot := pot) (rd := rd) (spt := spt) (wr := wr)
  obtain ⟨w, r', v', z', hp', mi', v1, e3, e4, g2, e6, -⟩ := g1.pass (r := r) (th := (0:Int32)) (past := past) (pm := pm) (sl := sl) (sv := sv) (sp := sp') (tx := tx) (ty := ty) (hp := hp) (mi := mi) (pot := pot) (rd := rd) (spt := spt) (wr := wr) (by omega)
  have e5 := back_f (th := (0:Int32)) (z := z') (past := past) (pm := pm) (sl := sl) (sv := sv) (sp := sp') (tx := tx) (ty := ty) (hp := hp') (mi := mi') (pot := Rd_pence r') (rd := rd) (spt := spt) (wr := wr) hs (g2.zero g)
  refine ⟨(Rd_pence r', (v1, r')), (Rd_pence r', (0, z, past, pm, sl, sv, sp', tx, ty, hp', mi', Rd_pence r', rd, spt, wr)), ?_, ?_, rfl, 0, sp', hp', mi', Rd_pence r', rfl⟩
  · simp only [f_X5_pot, e1, e6, bd_s]
  · simp only [f_X6_pot, St_count, St_month, St_contribution, St_box, St_given, St_purse, St_guarantor, St_bid, St_away, St_taken, St_inside, St_paidForItself, St_paidForOthers, St_gotOfPot, St_shares, St_misses, St_debt, St_count_s, St_month_s, St_contribution_s, St_box_s, St_given_s, St_purse_s, St_guarantor_s, St_bid_s, St_away_s, St_taken_s, St_inside_s, St_paidForItself_s, St_paidForOthers_s, St_gotOfPot_s, St_shares_s, St_misses_s, St_debt_s, Rd_paid, Rd_missing, Rd_pence, Rd_paid_s, Rd_missing_s, Rd_pence_s, Md_thrown, Md_z, Md_past, Md_pastMany, Md_slots, Md_isSaved, Md_spare, Md_text, Md_typed, Md_hasPaid, Md_misses, Md_potNow, Md_read, Md_spot, Md_wrong, Md_thrown_s, Md_z_s, Md_past_s, Md_pastMany_s, Md_slots_s, Md_isSaved_s, Md_spare_s, Md_text_s, Md_typed_s, Md_hasPaid_s, Md_misses_s, Md_potNow_s, Md_read_s, Md_spot_s, Md_wrong_s, lt_e, e2, e4, e5, bd_s]
theorem try_change (hv : Now v z) (t0 : StV) (r : RdV) (i : Int32) : Two (f_X5_change v t0 r i) (f_X6_change (th, z, past, pm, sl, sv, sp, tx, ty, hp, mi, pot, rd, spt, wr) i) (Ans (fun s k => s = IOB ∧ k = 1) (fun (_ : StV × RdV) q => ∃ t sp' hp' mi' pot', q = (t, z, past, pm, sl, sv, sp', tx, ty, hp', mi', pot', rd, spt, wr))) := by
  obtain ⟨c, m, hm, g⟩ := hv
  have hc := g.cnt.1
  rcases mem_or i hc with ⟨a, ha, rfl⟩ | ha
  · obtain ⟨m1, m2, -⟩ := g.yes (th := th) (past := past) (pm := pm) (sl := sl) (sv := sv) (sp := sp) (tx := tx) (ty := ty) (hp := hp) (mi := mi) (pot := pot) (rd := rd) (spt := spt) (wr := wr) ha
    obtain ⟨t, e1, g1⟩ := g.copy t0
    obtain ⟨sp', e2, hs⟩ := aside_f (th := (0:Int32)) (z := z) (past := past) (pm := pm) (sl := sl) (sv := sv) (sp := sp) (tx := tx) (ty := ty) (hp := hp) (mi := mi) (pot := pot) (rd := rd) (spt := spt) (wr := wr)
    obtain ⟨w, r', v', z', hp', mi', v1, e3, e4, g2, -, -⟩ := g1.pass (r := r) (th := (0:Int32)) (past := past) (pm := pm) (sl := sl) (sv := sv) (sp := sp') (tx := tx) (ty := ty) (hp := hp) (mi := mi) (pot := pot) (rd := rd) (spt := spt) (wr := wr) (by omega)
    have e5 := back_f (th := (0:Int32)) (z := z') (past := past) (pm := pm) (sl := sl) (sv := sv) (sp := sp') (tx := tx) (ty := ty) (hp := hp') (mi := mi') (pot := Rd_pence r') (rd := rd) (spt := spt) (wr := wr) hs (g2.zero g)
    have p1 := g2.purse ha
    have p2 := g.purse ha
    have p3 := hs (5 + a) (by omega)
    refine tw_mk (a := .inl (St_purse v' a - St_purse v a, (v', r'))) (b := (St_purse v' a - St_purse v a, (0, z, past, pm, sl, sv, sp', tx, ty, hp', mi', Rd_pence r', rd, spt, wr))) ?_ ?_ ⟨rfl, rfl, 0, sp', hp', mi', Rd_pence r', rfl⟩
    · simp (disch := omega) only [f_X5_change, m1, bx_l, e1, e3, bd_s, lt_e, gi_ok, nI_clamp]
    · simp (disch := omega) only [f_X6_change, m2, St_count, St_month, St_contribution, St_box, St_given, St_purse, St_guarantor, St_bid, St_away, St_taken, St_inside, St_paidForItself, St_paidForOthers, St_gotOfPot, St_shares, St_misses, St_debt, St_count_s, St_month_s, St_contribution_s, St_box_s, St_given_s, St_purse_s, St_guarantor_s, St_bid_s, St_away_s, St_taken_s, St_inside_s, St_paidForItself_s, St_paidForOthers_s, St_gotOfPot_s, St_shares_s, St_misses_s, St_debt_s, Rd_paid, Rd_missing, Rd_pence, Rd_paid_s, Rd_missing_s, Rd_pence_s, Md_thrown, Md_z, Md_past, Md_pastMany, Md_slots, Md_isSaved, Md_spare, Md_text, Md_typed, Md_hasPaid, Md_misses, Md_potNow, Md_read, Md_spot, Md_wrong, Md_thrown_s, Md_z_s, Md_past_s, Md_pastMany_s, Md_slots_s, Md_isSaved_s, Md_spare_s, Md_text_s, Md_typed_s, Md_hasPaid_s, Md_misses_s, Md_potNow_s, Md_read_s, Md_spot_s, Md_wrong_s, lt_e, e2, e4, e5, bd_s, o_ne, zle, a5, gi_ok, nI_clamp, p3, p2, p1, ↓reduceIte]
  · obtain ⟨m1, m2, -⟩ := g.no (th := th) (past := past) (pm := pm) (sl := sl) (sv := sv) (sp := sp) (tx := tx) (ty := ty) (hp := hp) (mi := mi) (pot := pot) (rd := rd) (spt := spt) (wr := wr) ha
    refine tw_mk (a := .inr (IOB, (t0, r))) (b := ((0:Int32), (1, z, past, pm, sl, sv, sp, tx, ty, hp, mi, pot, rd, spt, wr))) ?_ ?_ ⟨1, ⟨rfl, rfl⟩, rfl, 1, sp, hp, mi, pot, rfl⟩
    · simp only [f_X5_change, m1, bx_r]
    · simp only [f_X6_change, m2, bd_s, lt_e, St_count, St_month, St_contribution, St_box, St_given, St_purse, St_guarantor, St_bid, St_away, St_taken, St_inside, St_paidForItself, St_paidForOthers, St_gotOfPot, St_shares, St_misses, St_debt, St_count_s, St_month_s, St_contribution_s, St_box_s, St_given_s, St_purse_s, St_guarantor_s, St_bid_s, St_away_s, St_taken_s, St_inside_s, St_paidForItself_s, St_paidForOthers_s, St_gotOfPot_s, St_shares_s, St_misses_s, St_debt_s, Rd_paid, Rd_missing, Rd_pence, Rd_paid_s, Rd_missing_s, Rd_pence_s, Md_thrown, Md_z, Md_past, Md_pastMany, Md_slots, Md_isSaved, Md_spare, Md_text, Md_typed, Md_hasPaid, Md_misses, Md_potNow, Md_read, Md_spot, Md_wrong, Md_thrown_s, Md_z_s, Md_past_s, Md_pastMany_s, Md_slots_s, Md_isSaved_s, Md_spare_s, Md_text_s, Md_typed_s, Md_hasPaid_s, Md_misses_s, Md_potNow_s, Md_read_s, Md_spot_s, Md_wrong_s, ole, ↓reduceIte]
theorem le20 {i : Nat} (h : i < 2147483648) : (20:Int32) ≤ nI i ↔ 20 ≤ i := nI_lei (a := 20) (by decide) h
theorem loop_end (g : Gs c m v z) (hm : m ≤ 99) {p1 p2 : Int32} {w0 : StV} {r : RdV} : Two (lp (b_X5_inTheEnd_18 w0 p1) FU ((0:Int32), v, r)) (lp (b_X6_inTheEnd_32 p2) FU ((0:Int32), (th, z, past, pm, sl, sv, sp, tx, ty, hp, mi, pot, rd, spt, wr))) (fun e f => ∃ k m' v' r' z' hp' mi' pot', e = (nI k, v', r') ∧ f = (nI k, (th, z', past, pm, sl, sv, sp, tx, ty, hp', mi', pot', rd, spt, wr)) ∧ Gs c m' v' z') := by
  refine lp_two (fun n s t => ∃ k m' v' r' z' hp' mi' pot', s = (nI k, v', r') ∧ t = (nI k, (th, z', past, pm, sl, sv, sp, tx, ty, hp', mi', pot', rd, spt, wr)) ∧ Gs c m' v' z' ∧ m' ≤ 99 ∧ k ≤ 20 ∧ n = 20 - k) _ ?_ (n := 20) ⟨0, m, v, r, z, hp, mi, pot, rfl, rfl, g, hm, by omega, by omega⟩ (FU_gt (by omega))
  rintro n s t ⟨k, m', v', r', z', hp', mi', pot', rfl, rfl, g', hm', h1, rfl⟩ J hJ
  by_cases h : k = 20
  · have h20 : 20 ≤ k := by omega
    simp (disch := omega) only [b_X5_inTheEnd_18, b_X6_inTheEnd_32, le20, h20, ↓reduceIte]
    exact ⟨k, m', v', r', z', hp', mi', pot', rfl, rfl, g'⟩
  · have n20 : ¬ 20 ≤ k := by omega
    obtain ⟨q, hq, w1, w2⟩ := g'.waiting (th := th) (past := past) (pm := pm) (sl := sl) (sv := sv) (sp := sp) (tx := tx) (ty := ty) (hp := hp') (mi := mi') (pot := pot') (rd := rd) (spt := spt) (wr := wr)
    obtain ⟨b, hb, c1, c2⟩ := g'.may (th := th) (past := past) (pm := pm) (sl := sl) (sv := sv) (sp := sp) (tx := tx) (ty := ty) (hp := hp') (mi := mi') (pot := pot') (rd := rd) (spt := spt) (wr := wr) (by omega)
    have hc8 := g'.cnt.1
    by_cases hq0 : q ≤ 0
    · rcases hb with rfl | ⟨rfl, -⟩
      · simp (disch := omega) only [b_X5_inTheEnd_18, b_X6_inTheEnd_32, le20, n20, w1, w2, c1, c2, bd_s, ge0, hq0, ↓reduceIte]
        exact ⟨k, m', v', r', z', hp', mi', pot', rfl, rfl, g'⟩
      · simp (disch := omega) only [b_X5_inTheEnd_18, b_X6_inTheEnd_32, le20, n20, w1, w2, c1, c2, bd_s, ge0, hq0, o_ne, ↓reduceIte]
        exact ⟨k, m', v', r', z', hp', mi', pot', rfl, rfl, g'⟩
    · rcases hb with rfl | ⟨rfl, hm9⟩
      · simp (disch := omega) only [b_X5_inTheEnd_18, b_X6_inTheEnd_32, le20, n20, w1, w2, c1, c2, bd_s, ge0, hq0, ↓reduceIte]
        exact ⟨k, m', v', r', z', hp', mi', pot', rfl, rfl, g'⟩
      · obtain ⟨w, r2, v2, z2, hp2, mi2, v1, e3, e4, g2, -, -⟩ := g'.pass (r := r') (th := th) (past := past) (pm := pm) (sl := sl) (sv := sv) (sp := sp) (tx := tx) (ty := ty) (hp := hp') (mi := mi') (pot := pot') (rd := rd) (spt := spt) (wr := wr) (by omega)
        simp (disch := omega) only [b_X5_inTheEnd_18, b_X6_inTheEnd_32, le20, n20, w1, w2, c1, c2, e3, e4, bd_s, lt_e, nI_s1, ge0, hq0, o_ne, ↓reduceIte]
        exact hJ _ _ _ (by omega) ⟨k + 1, m' + 1, v2, r2, z2, hp2, mi2, Rd_pence r2, rfl, rfl, g2, by omega, by omega, rfl⟩
theorem try_inTheEnd (hv : Now v z) (t0 : StV) (r : RdV) (i : Int32) : Two (f_X5_inTheEnd v t0 r i) (f_X6_inTheEnd (th, z, past, pm, sl, sv, sp, tx, ty, hp, mi, pot, rd, spt, wr) i) (Ans (fun s k => s = IOB ∧ k = 1) (fun (_ : StV × RdV) q => ∃ t sp' hp' mi' pot', q = (t, z, past, pm, sl, sv, sp', tx, ty, hp', mi', pot', rd, spt, wr))) := by
  obtain ⟨c, m, hm, g⟩ := hv
  have hc := g.cnt.1
  rcases mem_or i hc with ⟨a, ha, rfl⟩ | ha
  · obtain ⟨m1, m2, -⟩ := g.yes (th := th) (past := past) (pm := pm) (sl := sl) (sv := sv) (sp := sp) (tx := tx) (ty := ty) (hp := hp) (mi := mi) (pot := pot) (rd := rd) (spt := spt) (wr := wr) ha
    obtain ⟨t, e1, g1⟩ := g.copy t0
    obtain ⟨sp', e2, hs⟩ := aside_f (th := (0:Int32)) (z := z) (past := past) (pm := pm) (sl := sl) (sv := sv) (sp := sp) (tx := tx) (ty := ty) (hp := hp) (mi := mi) (pot := pot) (rd := rd) (spt := spt) (wr := wr)
    obtain ⟨_, _, e3, e4, k, m', v', r', z', hp', mi', pot', rfl, rfl, g2⟩ := tw_get (loop_end (p1 := nI a) (p2 := nI a) (w0 := v) (r := r) (th := (0:Int32)) (past := past) (pm := pm) (sl := sl) (sv := sv) (sp := sp') (tx := tx) (ty := ty) (hp := hp) (mi := mi) (pot := pot) (rd := rd) (spt := spt) (wr := wr) g1 hm)
    have e5 := back_f (th := (0:Int32)) (z := z') (past := past) (pm := pm) (sl := sl) (sv := sv) (sp := sp') (tx := tx) (ty := ty) (hp := hp') (mi := mi') (pot := pot') (rd := rd) (spt := spt) (wr := wr) hs (g2.zero g)
    have p1 := g2.purse ha
    refine tw_mk (a := .inl (St_purse v' a, (v', r'))) (b := (St_purse v' a, (0, z, past, pm, sl, sv, sp', tx, ty, hp', mi', pot', rd, spt, wr))) ?_ ?_ ⟨rfl, rfl, 0, sp', hp', mi', pot', rfl⟩
    · simp (disch := omega) only [f_X5_inTheEnd, m1, bx_l, e1, e3, bd_s, lt_e, gi_ok, nI_clamp]
    · simp (disch := omega) only [f_X6_inTheEnd, m2, St_count, St_month, St_contribution, St_box, St_given, St_purse, St_guarantor, St_bid, St_away, St_taken, St_inside, St_paidForItself, St_paidForOthers, St_gotOfPot, St_shares, St_misses, St_debt, St_count_s, St_month_s, St_contribution_s, St_box_s, St_given_s, St_purse_s, St_guarantor_s, St_bid_s, St_away_s, St_taken_s, St_inside_s, St_paidForItself_s, St_paidForOthers_s, St_gotOfPot_s, St_shares_s, St_misses_s, St_debt_s, Rd_paid, Rd_missing, Rd_pence, Rd_paid_s, Rd_missing_s, Rd_pence_s, Md_thrown, Md_z, Md_past, Md_pastMany, Md_slots, Md_isSaved, Md_spare, Md_text, Md_typed, Md_hasPaid, Md_misses, Md_potNow, Md_read, Md_spot, Md_wrong, Md_thrown_s, Md_z_s, Md_past_s, Md_pastMany_s, Md_slots_s, Md_isSaved_s, Md_spare_s, Md_text_s, Md_typed_s, Md_hasPaid_s, Md_misses_s, Md_potNow_s, Md_read_s, Md_spot_s, Md_wrong_s, lt_e, e2, e4, e5, bd_s, o_ne, zle, a5, gi_ok, nI_clamp, p1, ↓reduceIte]
  · obtain ⟨m1, m2, -⟩ := g.no (th := th) (past := past) (pm := pm) (sl := sl) (sv := sv) (sp := sp) (tx := tx) (ty := ty) (hp := hp) (mi := mi) (pot := pot) (rd := rd) (spt := spt) (wr := wr) ha
    refine tw_mk (a := .inr (IOB, (t0, r))) (b := ((0:Int32), (1, z, past, pm, sl, sv, sp, tx, ty, hp, mi, pot, rd, spt, wr))) ?_ ?_ ⟨1, ⟨rfl, rfl⟩, rfl, 1, sp, hp, mi, pot, rfl⟩
    · simp only [f_X5_inTheEnd, m1, bx_r]
    · simp only [f_X6_inTheEnd, m2, bd_s, lt_e, St_count, St_month, St_contribution, St_box, St_given, St_purse, St_guarantor, St_bid, St_away, St_taken, St_inside, St_paidForItself, St_paidForOthers, St_gotOfPot, St_shares, St_misses, St_debt, St_count_s, St_month_s, St_contribution_s, St_box_s, St_given_s, St_purse_s, St_guarantor_s, St_bid_s, St_away_s, St_taken_s, St_inside_s, St_paidForItself_s, St_paidForOthers_s, St_gotOfPot_s, St_shares_s, St_misses_s, St_debt_s, Rd_paid, Rd_missing, Rd_pence, Rd_paid_s, Rd_missing_s, Rd_pence_s, Md_thrown, Md_z, Md_past, Md_pastMany, Md_slots, Md_isSaved, Md_spare, Md_text, Md_typed, Md_hasPaid, Md_misses, Md_potNow, Md_read, Md_spot, Md_wrong, Md_thrown_s, Md_z_s, Md_past_s, Md_pastMany_s, Md_slots_s, Md_isSaved_s, Md_spare_s, Md_text_s, Md_typed_s, Md_hasPaid_s, Md_misses_s, Md_potNow_s, Md_read_s, Md_spot_s, Md_wrong_s, ole, ↓reduceIte]
theorem loop_when (g : Gs c m v z) (hm : m ≤ 99) {i : Int32} {w0 : StV} {r : RdV} : Two (lp (b_X5_when_18 w0 i) FU ((0:Int32), v, r)) (lp (b_X6_when_35 i) FU ((-99999:Int32), (0:Int32), (th, z, past, pm, sl, sv, sp, tx, ty, hp, mi, pot, rd, spt, wr))) (fun e f => ∃ k k' m' v' r' z' hp' mi' pot', Gs c m' v' z' ∧ ((e = .inl (nI k, v', r') ∧ f = ((-99999:Int32), nI k', (th, z', past, pm, sl, sv, sp, tx, ty, hp', mi', pot', rd, spt, wr))) ∨ ∃ q, e = .inr (q, (v', r')) ∧ f = (q, nI k', (th, z', past, pm, sl, sv, sp, tx, ty, hp', mi', pot', rd, spt, wr)))) := by
  refine lp_tail (fun n s t => ∃ k m' v' r' z' hp' mi' pot', s = (nI k, v', r') ∧ t = ((-99999:Int32), nI k, (th, z', past, pm, sl, sv, sp, tx, ty, hp', mi', pot', rd, spt, wr)) ∧ Gs c m' v' z' ∧ m' ≤ 99 ∧ k ≤ 20 ∧ n = 20 - k) 2 _ ?_ (n := 20) ⟨0, m, v, r, z, hp, mi, pot, rfl, rfl, g, hm, by omega, by omega⟩ (FU_gt (by omega))
  rintro n s t ⟨k, m', v', r', z', hp', mi', pot', rfl, rfl, g', hm', h1, rfl⟩ J X hJ hX
  have stop : ∀ (fu : Nat), b_X6_when_35 i ((-99999:Int32), nI k, (th, z', past, pm, sl, sv, sp, tx, ty, hp', mi', pot', rd, spt, wr)) = some (.inr ((-99999:Int32), nI k, (th, z', past, pm, sl, sv, sp, tx, ty, hp', mi', pot', rd, spt, wr))) → lp (b_X6_when_35 i) (fu + 1) ((-99999:Int32), nI k, (th, z', past, pm, sl, sv, sp, tx, ty, hp', mi', pot', rd, spt, wr)) = some ((-99999:Int32), nI k, (th, z', past, pm, sl, sv, sp, tx, ty, hp', mi', pot', rd, spt, wr)) := fun fu e => by rw [lp, e]
  by_cases h : k = 20
  · have h20 : 20 ≤ k := by omega
    simp (disch := omega) only [b_X5_when_18, le20, h20, ↓reduceIte]
    refine hX _ (on_mk (stop 1 ?_) ⟨k, k, m', v', r', z', hp', mi', pot', g', Or.inl ⟨rfl, rfl⟩⟩)
    simp (disch := omega) only [b_X6_when_35, le20, h20, ↓reduceIte]
  · have n20 : ¬ 20 ≤ k := by omega
    obtain ⟨b, hb, c1, c3⟩ := g'.may (th := th) (past := past) (pm := pm) (sl := sl) (sv := sv) (sp := sp) (tx := tx) (ty := ty) (hp := hp') (mi := mi') (pot := pot') (rd := rd) (spt := spt) (wr := wr) (by omega)
    obtain ⟨hc8, -, -, n1, n2⟩ := g'.cnt
    rcases hb with rfl | ⟨rfl, hm9⟩
    · simp (disch := omega) only [b_X5_when_18, le20, n20, c1, bd_s, ↓reduceIte]
      refine hX _ (on_mk (stop 1 ?_) ⟨k, k, m', v', r', z', hp', mi', pot', g', Or.inl ⟨rfl, rfl⟩⟩)
      simp (disch := omega) only [b_X6_when_35, le20, n20, c3, bd_s, ↓reduceIte]
    · obtain ⟨w, r2, v2, z2, hp2, mi2, v1, e3, e4, g2, -, -⟩ := g'.pass (r := r') (th := th) (past := past) (pm := pm) (sl := sl) (sv := sv) (sp := sp) (tx := tx) (ty := ty) (hp := hp') (mi := mi') (pot := pot') (rd := rd) (spt := spt) (wr := wr) (by omega)
      by_cases hw : w = i
      · simp (disch := omega) only [b_X5_when_18, le20, n20, c1, e3, hw, bd_s, lt_e, o_ne, ↓reduceIte]
        have e1 : b_X6_when_35 i ((-99999:Int32), nI k, (th, z', past, pm, sl, sv, sp, tx, ty, hp', mi', pot', rd, spt, wr)) = some (.inl (nI m', nI (k + 1), (th, z2, past, pm, sl, sv, sp, tx, ty, hp2, mi2, Rd_pence r2, rd, spt, wr))) := by
          simp (disch := omega) only [b_X6_when_35, le20, n20, c3, e4, hw, bd_s, lt_e, o_ne, g2_157, c2, St_count, St_month, St_contribution, St_box, St_given, St_purse, St_guarantor, St_bid, St_away, St_taken, St_inside, St_paidForItself, St_paidForOthers, St_gotOfPot, St_shares, St_misses, St_debt, St_count_s, St_month_s, St_contribution_s, St_box_s, St_given_s, St_purse_s, St_guarantor_s, St_bid_s, St_away_s, St_taken_s, St_inside_s, St_paidForItself_s, St_paidForOthers_s, St_gotOfPot_s, St_shares_s, St_misses_s, St_debt_s, Rd_paid, Rd_missing, Rd_pence, Rd_paid_s, Rd_missing_s, Rd_pence_s, Md_thrown, Md_z, Md_past, Md_pastMany, Md_slots, Md_isSaved, Md_spare, Md_text, Md_typed, Md_hasPaid, Md_misses, Md_potNow, Md_read, Md_spot, Md_wrong, Md_thrown_s, Md_z_s, Md_past_s, Md_pastMany_s, Md_slots_s, Md_isSaved_s, Md_spare_s, Md_text_s, Md_typed_s, Md_hasPaid_s, Md_misses_s, Md_potNow_s, Md_read_s, Md_spot_s, Md_wrong_s, n2, nI_s1, ↓reduceIte]
        have e2 : b_X6_when_35 i (nI m', nI (k + 1), (th, z2, past, pm, sl, sv, sp, tx, ty, hp2, mi2, Rd_pence r2, rd, spt, wr)) = some (.inr (nI m', nI (k + 1), (th, z2, past, pm, sl, sv, sp, tx, ty, hp2, mi2, Rd_pence r2, rd, spt, wr))) := by
          by_cases h21 : 20 ≤ k + 1
          · simp (disch := omega) only [b_X6_when_35, le20, h21, ↓reduceIte]
          · obtain ⟨b2, hb2, -, c4⟩ := g2.may (th := th) (past := past) (pm := pm) (sl := sl) (sv := sv) (sp := sp) (tx := tx) (ty := ty) (hp := hp2) (mi := mi2) (pot := Rd_pence r2) (rd := rd) (spt := spt) (wr := wr) (by omega)
            rcases hb2 with rfl | ⟨rfl, -⟩
            · simp (disch := omega) only [b_X6_when_35, le20, h21, c4, bd_s, ↓reduceIte]
            · simp (disch := omega) only [b_X6_when_35, le20, h21, c4, bd_s, o_ne, nI_neg, ↓reduceIte]
        refine hX _ (on_mk (a := (nI m', nI (k + 1), (th, z2, past, pm, sl, sv, sp, tx, ty, hp2, mi2, Rd_pence r2, rd, spt, wr))) ?_ ⟨k, k + 1, m' + 1, v2, r2, z2, hp2, mi2, Rd_pence r2, g2, Or.inr ⟨nI m', by rw [n1], rfl⟩⟩)
        rw [lp, e1]
        show lp _ 1 _ = _
        rw [lp, e2]
      · simp (disch := omega) only [b_X5_when_18, b_X6_when_35, le20, n20, c1, c3, e3, e4, hw, bd_s, lt_e, o_ne, g2_157, c2, St_count, St_month, St_contribution, St_box, St_given, St_purse, St_guarantor, St_bid, St_away, St_taken, St_inside, St_paidForItself, St_paidForOthers, St_gotOfPot, St_shares, St_misses, St_debt, St_count_s, St_month_s, St_contribution_s, St_box_s, St_given_s, St_purse_s, St_guarantor_s, St_bid_s, St_away_s, St_taken_s, St_inside_s, St_paidForItself_s, St_paidForOthers_s, St_gotOfPot_s, St_shares_s, St_misses_s, St_debt_s, Rd_paid, Rd_missing, Rd_pence, Rd_paid_s, Rd_missing_s, Rd_pence_s, Md_thrown, Md_z, Md_past, Md_pastMany, Md_slots, Md_isSaved, Md_spare, Md_text, Md_typed, Md_hasPaid, Md_misses, Md_potNow, Md_read, Md_spot, Md_wrong, Md_thrown_s, Md_z_s, Md_past_s, Md_pastMany_s, Md_slots_s, Md_isSaved_s, Md_spare_s, Md_text_s, Md_typed_s, Md_hasPaid_s, Md_misses_s, Md_potNow_s, Md_read_s, Md_spot_s, Md_wrong_s, n2, nI_s1, ↓reduceIte]
        exact hJ _ _ _ (by omega) ⟨k + 1, m' + 1, v2, r2, z2, hp2, mi2, Rd_pence r2, rfl, rfl, g2, by omega, by omega, rfl⟩
theorem try_when (hv : Now v z) (t0 : StV) (r : RdV) (i : Int32) : Two (f_X5_when v t0 r i) (f_X6_when (th, z, past, pm, sl, sv, sp, tx, ty, hp, mi, pot, rd, spt, wr) i) (Ans (fun s k => s = IOB ∧ k = 1) (fun (_ : StV × RdV) q => ∃ t sp' hp' mi' pot', q = (t, z, past, pm, sl, sv, sp', tx, ty, hp', mi', pot', rd, spt, wr))) := by
  obtain ⟨c, m, hm, g⟩ := hv
  have hc := g.cnt.1
  rcases mem_or i hc with ⟨a, ha, rfl⟩ | ha
  · obtain ⟨m1, m2, -⟩ := g.yes (th := th) (past := past) (pm := pm) (sl := sl) (sv := sv) (sp := sp) (tx := tx) (ty := ty) (hp := hp) (mi := mi) (pot := pot) (rd := rd) (spt := spt) (wr := wr) ha
    obtain ⟨t, e1, g1⟩ := g.copy t0
    obtain ⟨sp', e2, hs⟩ := aside_f (th := (0:Int32)) (z := z) (past := past) (pm := pm) (sl := sl) (sv := sv) (sp := sp) (tx := tx) (ty := ty) (hp := hp) (mi := mi) (pot := pot) (rd := rd) (spt := spt) (wr := wr)
    obtain ⟨e9, f9, e3, e4, k, k', m', v', r', z', hp', mi', pot', g2, hr⟩ := tw_get (loop_when (i := nI a) (w0 := v) (r := r) (th := (0:Int32)) (past := past) (pm := pm) (sl := sl) (sv := sv) (sp := sp') (tx := tx) (ty := ty) (hp := hp) (mi := mi) (pot := pot) (rd := rd) (spt := spt) (wr := wr) g1 hm)
    have e5 := back_f (th := (0:Int32)) (z := z') (past := past) (pm := pm) (sl := sl) (sv := sv) (sp := sp') (tx := tx) (ty := ty) (hp := hp') (mi := mi') (pot := pot') (rd := rd) (spt := spt) (wr := wr) hs (g2.zero g)
    rcases hr with ⟨rfl, rfl⟩ | ⟨q, rfl, rfl⟩
    · refine tw_mk (a := .inl ((-99999:Int32), (v', r'))) (b := ((-99999:Int32), (0, z, past, pm, sl, sv, sp', tx, ty, hp', mi', pot', rd, spt, wr))) ?_ ?_ ⟨rfl, rfl, 0, sp', hp', mi', pot', rfl⟩
      · simp (disch := omega) only [f_X5_when, m1, bx_l, e1, e3, bd_s, el]
      · simp (disch := omega) only [f_X6_when, m2, St_count, St_month, St_contribution, St_box, St_given, St_purse, St_guarantor, St_bid, St_away, St_taken, St_inside, St_paidForItself, St_paidForOthers, St_gotOfPot, St_shares, St_misses, St_debt, St_count_s, St_month_s, St_contribution_s, St_box_s, St_given_s, St_purse_s, St_guarantor_s, St_bid_s, St_away_s, St_taken_s, St_inside_s, St_paidForItself_s, St_paidForOthers_s, St_gotOfPot_s, St_shares_s, St_misses_s, St_debt_s, Rd_paid, Rd_missing, Rd_pence, Rd_paid_s, Rd_missing_s, Rd_pence_s, Md_thrown, Md_z, Md_past, Md_pastMany, Md_slots, Md_isSaved, Md_spare, Md_text, Md_typed, Md_hasPaid, Md_misses, Md_potNow, Md_read, Md_spot, Md_wrong, Md_thrown_s, Md_z_s, Md_past_s, Md_pastMany_s, Md_slots_s, Md_isSaved_s, Md_spare_s, Md_text_s, Md_typed_s, Md_hasPaid_s, Md_misses_s, Md_potNow_s, Md_read_s, Md_spot_s, Md_wrong_s, lt_e, e2, e4, e5, bd_s, o_ne, zle, ↓reduceIte]
    · refine tw_mk (a := .inl (q, (v', r'))) (b := (q, (0, z, past, pm, sl, sv, sp', tx, ty, hp', mi', pot', rd, spt, wr))) ?_ ?_ ⟨rfl, rfl, 0, sp', hp', mi', pot', rfl⟩
      · simp (disch := omega) only [f_X5_when, m1, bx_l, e1, e3, bd_s, el]
      · simp (disch := omega) only [f_X6_when, m2, St_count, St_month, St_contribution, St_box, St_given, St_purse, St_guarantor, St_bid, St_away, St_taken, St_inside, St_paidForItself, St_paidForOthers, St_gotOfPot, St_shares, St_misses, St_debt, St_count_s, St_month_s, St_contribution_s, St_box_s, St_given_s, St_purse_s, St_guarantor_s, St_bid_s, St_away_s, St_taken_s, St_inside_s, St_paidForItself_s, St_paidForOthers_s, St_gotOfPot_s, St_shares_s, St_misses_s, St_debt_s, Rd_paid, Rd_missing, Rd_pence, Rd_paid_s, Rd_missing_s, Rd_pence_s, Md_thrown, Md_z, Md_past, Md_pastMany, Md_slots, Md_isSaved, Md_spare, Md_text, Md_typed, Md_hasPaid, Md_misses, Md_potNow, Md_read, Md_spot, Md_wrong, Md_thrown_s, Md_z_s, Md_past_s, Md_pastMany_s, Md_slots_s, Md_isSaved_s, Md_spare_s, Md_text_s, Md_typed_s, Md_hasPaid_s, Md_misses_s, Md_potNow_s, Md_read_s, Md_spot_s, Md_wrong_s, lt_e, e2, e4, e5, bd_s, o_ne, zle, ↓reduceIte]
  · obtain ⟨m1, m2, -⟩ := g.no (th := th) (past := past) (pm := pm) (sl := sl) (sv := sv) (sp := sp) (tx := tx) (ty := ty) (hp := hp) (mi := mi) (pot := pot) (rd := rd) (spt := spt) (wr := wr) ha
    refine tw_mk (a := .inr (IOB, (t0, r))) (b := ((0:Int32), (1, z, past, pm, sl, sv, sp, tx, ty, hp, mi, pot, rd, spt, wr))) ?_ ?_ ⟨1, ⟨rfl, rfl⟩, rfl, 1, sp, hp, mi, pot, rfl⟩
    · simp only [f_X5_when, m1, bx_r]
    · simp only [f_X6_when, m2, bd_s, lt_e, St_count, St_month, St_contribution, St_box, St_given, St_purse, St_guarantor, St_bid, St_away, St_taken, St_inside, St_paidForItself, St_paidForOthers, St_gotOfPot, St_shares, St_misses, St_debt, St_count_s, St_month_s, St_contribution_s, St_box_s, St_given_s, St_purse_s, St_guarantor_s, St_bid_s, St_away_s, St_taken_s, St_inside_s, St_paidForItself_s, St_paidForOthers_s, St_gotOfPot_s, St_shares_s, St_misses_s, St_debt_s, Rd_paid, Rd_missing, Rd_pence, Rd_paid_s, Rd_missing_s, Rd_pence_s, Md_thrown, Md_z, Md_past, Md_pastMany, Md_slots, Md_isSaved, Md_spare, Md_text, Md_typed, Md_hasPaid, Md_misses, Md_potNow, Md_read, Md_spot, Md_wrong, Md_thrown_s, Md_z_s, Md_past_s, Md_pastMany_s, Md_slots_s, Md_isSaved_s, Md_spare_s, Md_text_s, Md_typed_s, Md_hasPaid_s, Md_misses_s, Md_potNow_s, Md_read_s, Md_spot_s, Md_wrong_s, ole, ↓reduceIte]
theorem loop_pillar (g : Gs c m v z) (hm : m ≤ 99) (hs : ∀ k, k < 157 → sp k = z k) {t0 : StV} {r : RdV} : Two (lp (b_X5_pillar_7 v) FU ((-99999:Int32), (0:Int32), (0:Int32), t0, r)) (lp b_X6_pillar_16 FU ((-99999:Int32), (0:Int32), (0:Int32), (th, z, past, pm, sl, sv, sp, tx, ty, hp, mi, pot, rd, spt, wr))) (fun e f => ∃ q x t' r' hp' mi' pot', e = (q, x, nI c, t', r') ∧ f = (q, x, nI c, (th, z, past, pm, sl, sv, sp, tx, ty, hp', mi', pot', rd, spt, wr))) := by
  obtain ⟨hc, n1, n0, -, -⟩ := g.cnt
  refine lp_two (fun n s t => ∃ k q x t' r' hp' mi' pot', s = (q, x, nI k, t', r') ∧ t = (q, x, nI k, (th, z, past, pm, sl, sv, sp, tx, ty, hp', mi', pot', rd, spt, wr)) ∧ k ≤ c ∧ n = c - k) _ ?_ (n := c) ⟨0, (-99999:Int32), (0:Int32), t0, r, hp, mi, pot, rfl, rfl, by omega, by omega⟩ (FU_gt (by omega))
  rintro n s t ⟨k, q, x, t', r', hp', mi', pot', rfl, rfl, h1, rfl⟩ J hJ
  by_cases h : k = c
  · subst h
    simp (disch := omega) only [b_X5_pillar_7, b_X6_pillar_16, n1, n0, St_count, St_month, St_contribution, St_box, St_given, St_purse, St_guarantor, St_bid, St_away, St_taken, St_inside, St_paidForItself, St_paidForOthers, St_gotOfPot, St_shares, St_misses, St_debt, St_count_s, St_month_s, St_contribution_s, St_box_s, St_given_s, St_purse_s, St_guarantor_s, St_bid_s, St_away_s, St_taken_s, St_inside_s, St_paidForItself_s, St_paidForOthers_s, St_gotOfPot_s, St_shares_s, St_misses_s, St_debt_s, Rd_paid, Rd_missing, Rd_pence, Rd_paid_s, Rd_missing_s, Rd_pence_s, Md_thrown, Md_z, Md_past, Md_pastMany, Md_slots, Md_isSaved, Md_spare, Md_text, Md_typed, Md_hasPaid, Md_misses, Md_potNow, Md_read, Md_spot, Md_wrong, Md_thrown_s, Md_z_s, Md_past_s, Md_pastMany_s, Md_slots_s, Md_isSaved_s, Md_spare_s, Md_text_s, Md_typed_s, Md_hasPaid_s, Md_misses_s, Md_potNow_s, Md_read_s, Md_spot_s, Md_wrong_s, g0_157, c0, nI_lei, Nat.le_refl, ↓reduceIte]
    exact ⟨q, x, t', r', hp', mi', pot', rfl, rfl⟩
  · have hk : k < c := by omega
    have nc : ¬ c ≤ k := by omega
    have n1' : v.1 = nI c := n1
    obtain ⟨i1, i2⟩ := g.ins hk
    have next : ∀ q x t' r' hp' mi' pot', J (q, x, nI (k + 1), t', r') (q, x, nI (k + 1), (th, z, past, pm, sl, sv, sp, tx, ty, hp', mi', pot', rd, spt, wr)) := fun q x t' r' hp' mi' pot' => hJ _ _ _ (by omega) ⟨k + 1, q, x, t', r', hp', mi', pot', rfl, rfl, by omega, rfl⟩
    rcases i2 with e | e
    · rw [e] at i1
      have e' : v.2.2.2.2.2.2.2.2.2.2.1 k = 0 := e
      simp (disch := omega) only [b_X5_pillar_7, b_X6_pillar_16, n1', n0, St_count, St_month, St_contribution, St_box, St_given, St_purse, St_guarantor, St_bid, St_away, St_taken, St_inside, St_paidForItself, St_paidForOthers, St_gotOfPot, St_shares, St_misses, St_debt, St_count_s, St_month_s, St_contribution_s, St_box_s, St_given_s, St_purse_s, St_guarantor_s, St_bid_s, St_away_s, St_taken_s, St_inside_s, St_paidForItself_s, St_paidForOthers_s, St_gotOfPot_s, St_shares_s, St_misses_s, St_debt_s, Rd_paid, Rd_missing, Rd_pence, Rd_paid_s, Rd_missing_s, Rd_pence_s, Md_thrown, Md_z, Md_past, Md_pastMany, Md_slots, Md_isSaved, Md_spare, Md_text, Md_typed, Md_hasPaid, Md_misses, Md_potNow, Md_read, Md_spot, Md_wrong, Md_thrown_s, Md_z_s, Md_past_s, Md_pastMany_s, Md_slots_s, Md_isSaved_s, Md_spare_s, Md_text_s, Md_typed_s, Md_hasPaid_s, Md_misses_s, Md_potNow_s, Md_read_s, Md_spot_s, Md_wrong_s, mul8, mul8r, lt_e, bd_s, gi_ok, gz2, gz8, gz40, q_add, nI_s1, nI_clamp, upd_same, nar0, nar1, c0, c1, c2, c3, c4, g0_157, g1_157, g2_157, g3_157, g4_157, g0_1, a5, a13, a21, a29, a37, a45, a53, a61, a69, a77, a85, a93, nI_lei, nc, e', i1, z_ne, ↓reduceIte]
      exact next _ _ _ _ _ _ _
    · rw [e] at i1
      have e' : v.2.2.2.2.2.2.2.2.2.2.1 k = 1 := e
      obtain ⟨t1, e1, g1⟩ := g.copy t'
      have g2 := g1.away hk (x := 1) (Or.inr rfl)
      obtain ⟨w, r2, v2, z2, hp2, mi2, v3, -, e4, g3, e6, -⟩ := g2.pass (r := r') (th := th) (past := past) (pm := pm) (sl := sl) (sv := sv) (sp := sp) (tx := tx) (ty := ty) (hp := hp') (mi := mi') (pot := pot') (rd := rd) (spt := spt) (wr := wr) (by omega)
      have e5 := back_f (th := th) (z := z2) (past := past) (pm := pm) (sl := sl) (sv := sv) (sp := sp) (tx := tx) (ty := ty) (hp := hp2) (mi := mi2) (pot := Rd_pence r2) (rd := rd) (spt := spt) (wr := wr) hs (g3.zero g)
      have pw : f_X5_potWithout v t' r' (nI k) = some (Rd_pence r2, (v3, r2)) := by
        have e6' : f_X1_payIn r' (St_away_s t1 (upd (St_away t1) k (vp_nar .boolean 1))) = some ((), (r2, v3)) := e6
        rw [f_X5_potWithout, e1, bd_s, gi_ok (by omega) (by omega), lt_e, nI_clamp (by omega), e6', bd_s]
      by_cases hq : q = (-99999:Int32)
      · simp (disch := omega) only [b_X5_pillar_7, b_X6_pillar_16, n1', n0, St_count, St_month, St_contribution, St_box, St_given, St_purse, St_guarantor, St_bid, St_away, St_taken, St_inside, St_paidForItself, St_paidForOthers, St_gotOfPot, St_shares, St_misses, St_debt, St_count_s, St_month_s, St_contribution_s, St_box_s, St_given_s, St_purse_s, St_guarantor_s, St_bid_s, St_away_s, St_taken_s, St_inside_s, St_paidForItself_s, St_paidForOthers_s, St_gotOfPot_s, St_shares_s, St_misses_s, St_debt_s, Rd_paid, Rd_missing, Rd_pence, Rd_paid_s, Rd_missing_s, Rd_pence_s, Md_thrown, Md_z, Md_past, Md_pastMany, Md_slots, Md_isSaved, Md_spare, Md_text, Md_typed, Md_hasPaid, Md_misses, Md_potNow, Md_read, Md_spot, Md_wrong, Md_thrown_s, Md_z_s, Md_past_s, Md_pastMany_s, Md_slots_s, Md_isSaved_s, Md_spare_s, Md_text_s, Md_typed_s, Md_hasPaid_s, Md_misses_s, Md_potNow_s, Md_read_s, Md_spot_s, Md_wrong_s, mul8, mul8r, lt_e, bd_s, gi_ok, gz2, gz8, gz40, q_add, nI_s1, nI_clamp, upd_same, nar0, nar1, c0, c1, c2, c3, c4, g0_157, g1_157, g2_157, g3_157, g4_157, g0_1, a5, a13, a21, a29, a37, a45, a53, a61, a69, a77, a85, a93, nI_lei, nc, e', i1, pw, e4, e5, hq, o_ne, ↓reduceIte]
        exact next _ _ _ _ _ _ _
      · by_cases hx : x ≤ Rd_pence r2
        · have hx' : x ≤ r2.2.2 := hx
          simp (disch := omega) only [b_X5_pillar_7, b_X6_pillar_16, n1', n0, St_count, St_month, St_contribution, St_box, St_given, St_purse, St_guarantor, St_bid, St_away, St_taken, St_inside, St_paidForItself, St_paidForOthers, St_gotOfPot, St_shares, St_misses, St_debt, St_count_s, St_month_s, St_contribution_s, St_box_s, St_given_s, St_purse_s, St_guarantor_s, St_bid_s, St_away_s, St_taken_s, St_inside_s, St_paidForItself_s, St_paidForOthers_s, St_gotOfPot_s, St_shares_s, St_misses_s, St_debt_s, Rd_paid, Rd_missing, Rd_pence, Rd_paid_s, Rd_missing_s, Rd_pence_s, Md_thrown, Md_z, Md_past, Md_pastMany, Md_slots, Md_isSaved, Md_spare, Md_text, Md_typed, Md_hasPaid, Md_misses, Md_potNow, Md_read, Md_spot, Md_wrong, Md_thrown_s, Md_z_s, Md_past_s, Md_pastMany_s, Md_slots_s, Md_isSaved_s, Md_spare_s, Md_text_s, Md_typed_s, Md_hasPaid_s, Md_misses_s, Md_potNow_s, Md_read_s, Md_spot_s, Md_wrong_s, mul8, mul8r, lt_e, bd_s, gi_ok, gz2, gz8, gz40, q_add, nI_s1, nI_clamp, upd_same, nar0, nar1, c0, c1, c2, c3, c4, g0_157, g1_157, g2_157, g3_157, g4_157, g0_1, a5, a13, a21, a29, a37, a45, a53, a61, a69, a77, a85, a93, nI_lei, nc, e', i1, pw, e4, e5, hq, hx', o_ne, ↓reduceIte]
          exact next _ _ _ _ _ _ _
        · have hx' : ¬ x ≤ r2.2.2 := hx
          simp (disch := omega) only [b_X5_pillar_7, b_X6_pillar_16, n1', n0, St_count, St_month, St_contribution, St_box, St_given, St_purse, St_guarantor, St_bid, St_away, St_taken, St_inside, St_paidForItself, St_paidForOthers, St_gotOfPot, St_shares, St_misses, St_debt, St_count_s, St_month_s, St_contribution_s, St_box_s, St_given_s, St_purse_s, St_guarantor_s, St_bid_s, St_away_s, St_taken_s, St_inside_s, St_paidForItself_s, St_paidForOthers_s, St_gotOfPot_s, St_shares_s, St_misses_s, St_debt_s, Rd_paid, Rd_missing, Rd_pence, Rd_paid_s, Rd_missing_s, Rd_pence_s, Md_thrown, Md_z, Md_past, Md_pastMany, Md_slots, Md_isSaved, Md_spare, Md_text, Md_typed, Md_hasPaid, Md_misses, Md_potNow, Md_read, Md_spot, Md_wrong, Md_thrown_s, Md_z_s, Md_past_s, Md_pastMany_s, Md_slots_s, Md_isSaved_s, Md_spare_s, Md_text_s, Md_typed_s, Md_hasPaid_s, Md_misses_s, Md_potNow_s, Md_read_s, Md_spot_s, Md_wrong_s, mul8, mul8r, lt_e, bd_s, gi_ok, gz2, gz8, gz40, q_add, nI_s1, nI_clamp, upd_same, nar0, nar1, c0, c1, c2, c3, c4, g0_157, g1_157, g2_157, g3_157, g4_157, g0_1, a5, a13, a21, a29, a37, a45, a53, a61, a69, a77, a85, a93, nI_lei, nc, e', i1, pw, e4, e5, hq, hx', o_ne, ↓reduceIte]
          exact next _ _ _ _ _ _ _
theorem try_pillar (hv : Now v z) (t0 : StV) (r : RdV) : Two (f_X5_pillar v t0 r) (f_X6_pillar (th, z, past, pm, sl, sv, sp, tx, ty, hp, mi, pot, rd, spt, wr)) (fun a b => a.1 = b.1 ∧ ∃ t sp' hp' mi' pot', b.2 = (t, z, past, pm, sl, sv, sp', tx, ty, hp', mi', pot', rd, spt, wr)) := by
  obtain ⟨c, m, hm, g⟩ := hv
  obtain ⟨sp', e2, hs⟩ := aside_f (th := (0:Int32)) (z := z) (past := past) (pm := pm) (sl := sl) (sv := sv) (sp := sp) (tx := tx) (ty := ty) (hp := hp) (mi := mi) (pot := pot) (rd := rd) (spt := spt) (wr := wr)
  obtain ⟨_, _, e3, e4, q, x, t', r', hp', mi', pot', rfl, rfl⟩ := tw_get (loop_pillar (t0 := t0) (r := r) (th := (0:Int32)) (past := past) (pm := pm) (sl := sl) (sv := sv) (sp := sp') (tx := tx) (ty := ty) (hp := hp) (mi := mi) (pot := pot) (rd := rd) (spt := spt) (wr := wr) g hm hs)
  refine tw_mk (a := (q, (t', r'))) (b := (q, (0, z, past, pm, sl, sv, sp', tx, ty, hp', mi', pot', rd, spt, wr))) ?_ ?_ ⟨rfl, 0, sp', hp', mi', pot', rfl⟩
  · simp only [f_X5_pillar, e3, bd_s]
  · simp only [f_X6_pillar, St_count, St_month, St_contribution, St_box, St_given, St_purse, St_guarantor, St_bid, St_away, St_taken, St_inside, St_paidForItself, St_paidForOthers, St_gotOfPot, St_shares, St_misses, St_debt, St_count_s, St_month_s, St_contribution_s, St_box_s, St_given_s, St_purse_s, St_guarantor_s, St_bid_s, St_away_s, St_taken_s, St_inside_s, St_paidForItself_s, St_paidForOthers_s, St_gotOfPot_s, St_shares_s, St_misses_s, St_debt_s, Rd_paid, Rd_missing, Rd_pence, Rd_paid_s, Rd_missing_s, Rd_pence_s, Md_thrown, Md_z, Md_past, Md_pastMany, Md_slots, Md_isSaved, Md_spare, Md_text, Md_typed, Md_hasPaid, Md_misses, Md_potNow, Md_read, Md_spot, Md_wrong, Md_thrown_s, Md_z_s, Md_past_s, Md_pastMany_s, Md_slots_s, Md_isSaved_s, Md_spare_s, Md_text_s, Md_typed_s, Md_hasPaid_s, Md_misses_s, Md_potNow_s, Md_read_s, Md_spot_s, Md_wrong_s, lt_e, e2, e4, bd_s]
end TRY
