/-! the states that undo takes back: a ring on the one side, a row that is pushed along on the other -/
def Now (v : StV) (z : Nat → Int32) : Prop := ∃ c m, m ≤ 99 ∧ Gs c m v z
def Seg (f : Nat → Int32) (j : Nat) : Nat → Int32 := fun k => if k < 157 then f (j * 157 + k) else 0
def Pst (pa : PaV) (past : Nat → Int32) (pm : Int32) : Prop := ∃ n q, n ≤ 14 ∧ q < 14 ∧ Pa_size pa = nI n ∧ Pa_next pa = nI q ∧ pm = nI n ∧ ∀ j, j < n → Now (Pa_states pa ((q + 14 - n + j) % 14)) (Seg past j)
theorem Seg_of {f z : Nat → Int32} {j : Nat} (h : ∀ k, k < 157 → f (j * 157 + k) = z k) (h0 : ∀ k, 157 ≤ k → z k = 0) : Seg f j = z := by
  funext k
  unfold Seg
  by_cases q : k < 157
  · rw [if_pos q, h k q]
  · rw [if_neg q, h0 k (by omega)]
theorem mul157 (a : Nat) : nI a * (157:Int32) = nI (a * 157) := q_mul a 157
theorem add157 (a : Nat) : nI a + (157:Int32) = nI (a + 157) := q_add a 157
theorem sub1 {a : Nat} (h : 1 ≤ a) : nI a - (1:Int32) = nI (a - 1) := nI_sub (b := 1) h
section PAST
variable {th : Int32} {z past : Nat → Int32} {pm : Int32} {sl sv sp tx : Nat → Int32} {ty : Int32} {hp mi : Nat → Int32} {pot : Int32} {rd : Nat → Int32} {spt wr : Int32}
theorem push {fu : Nat} (hf : 2041 < fu) : One (lp b_X6_remember_11 fu ((0:Int32), (th, z, past, pm, sl, sv, sp, tx, ty, hp, mi, pot, rd, spt, wr))) (fun e => ∃ past', e = (nI 2041, (th, z, past', pm, sl, sv, sp, tx, ty, hp, mi, pot, rd, spt, wr)) ∧ ∀ k, k < 2041 → past' k = past (k + 157)) := by
  refine lp_one (fun n s => ∃ i past', s = (nI i, (th, z, past', pm, sl, sv, sp, tx, ty, hp, mi, pot, rd, spt, wr)) ∧ i ≤ 2041 ∧ n = 2041 - i ∧ (∀ k, k < i → past' k = past (k + 157)) ∧ ∀ k, i ≤ k → past' k = past k) _ ?_ (n := 2041) ⟨0, past, rfl, by omega, by omega, fun k h => by omega, fun k _ => rfl⟩ hf
  rintro n s ⟨i, past', rfl, h1, rfl, h2, h3⟩ J hJ
  by_cases h : i = 2041
  · subst h
    simp (disch := omega) only [b_X6_remember_11, St_count, St_month, St_contribution, St_box, St_given, St_purse, St_guarantor, St_bid, St_away, St_taken, St_inside, St_paidForItself, St_paidForOthers, St_gotOfPot, St_shares, St_misses, St_debt, St_count_s, St_month_s, St_contribution_s, St_box_s, St_given_s, St_purse_s, St_guarantor_s, St_bid_s, St_away_s, St_taken_s, St_inside_s, St_paidForItself_s, St_paidForOthers_s, St_gotOfPot_s, St_shares_s, St_misses_s, St_debt_s, Rd_paid, Rd_missing, Rd_pence, Rd_paid_s, Rd_missing_s, Rd_pence_s, Md_thrown, Md_z, Md_past, Md_pastMany, Md_slots, Md_isSaved, Md_spare, Md_text, Md_typed, Md_hasPaid, Md_misses, Md_potNow, Md_read, Md_spot, Md_wrong, Md_thrown_s, Md_z_s, Md_past_s, Md_pastMany_s, Md_slots_s, Md_isSaved_s, Md_spare_s, Md_text_s, Md_typed_s, Md_hasPaid_s, Md_misses_s, Md_potNow_s, Md_read_s, Md_spot_s, Md_wrong_s, mul8, mul8r, lt_e, bd_s, gi_ok, gz2, gz8, gz40, q_add, nI_s1, nI_clamp, upd_same, nar0, nar1, c0, c1, c2, c3, c4, g0_157, g1_157, g2_157, g3_157, g4_157, g0_1, a5, a13, a21, a29, a37, a45, a53, a61, a69, a77, a85, a93, le2041, Nat.le_refl, ↓reduceIte]
    exact ⟨past', rfl, h2⟩
  · have nc : ¬ 2041 ≤ i := by omega
    simp (disch := omega) only [b_X6_remember_11, St_count, St_month, St_contribution, St_box, St_given, St_purse, St_guarantor, St_bid, St_away, St_taken, St_inside, St_paidForItself, St_paidForOthers, St_gotOfPot, St_shares, St_misses, St_debt, St_count_s, St_month_s, St_contribution_s, St_box_s, St_given_s, St_purse_s, St_guarantor_s, St_bid_s, St_away_s, St_taken_s, St_inside_s, St_paidForItself_s, St_paidForOthers_s, St_gotOfPot_s, St_shares_s, St_misses_s, St_debt_s, Rd_paid, Rd_missing, Rd_pence, Rd_paid_s, Rd_missing_s, Rd_pence_s, Md_thrown, Md_z, Md_past, Md_pastMany, Md_slots, Md_isSaved, Md_spare, Md_text, Md_typed, Md_hasPaid, Md_misses, Md_potNow, Md_read, Md_spot, Md_wrong, Md_thrown_s, Md_z_s, Md_past_s, Md_pastMany_s, Md_slots_s, Md_isSaved_s, Md_spare_s, Md_text_s, Md_typed_s, Md_hasPaid_s, Md_misses_s, Md_potNow_s, Md_read_s, Md_spot_s, Md_wrong_s, mul8, mul8r, lt_e, bd_s, gi_ok, gz2, gz8, gz40, q_add, nI_s1, nI_clamp, upd_same, nar0, nar1, c0, c1, c2, c3, c4, g0_157, g1_157, g2_157, g3_157, g4_157, g0_1, a5, a13, a21, a29, a37, a45, a53, a61, a69, a77, a85, a93, add157, le2041, nc, ↓reduceIte]
    refine hJ _ _ (by omega) ⟨i + 1, _, rfl, by omega, rfl, fun j hj => ?_, fun j hj => ?_⟩
    · by_cases e : j = i
      · subst e; rw [upd_same]; exact h3 _ (by omega)
      · rw [upd_ne e]; exact h2 j (by omega)
    · rw [upd_ne (by omega)]; exact h3 j (by omega)
theorem note {fu n : Nat} (hf : 157 < fu) (hn : n ≤ 13) : One (lp b_X6_remember_52 fu ((0:Int32), (th, z, past, nI n, sl, sv, sp, tx, ty, hp, mi, pot, rd, spt, wr))) (fun e => ∃ past', e = (nI 157, (th, z, past', nI n, sl, sv, sp, tx, ty, hp, mi, pot, rd, spt, wr)) ∧ (∀ k, k < 157 → past' (n * 157 + k) = z k) ∧ ∀ k, k < n * 157 → past' k = past k) := by
  refine lp_one (fun w s => ∃ i past', s = (nI i, (th, z, past', nI n, sl, sv, sp, tx, ty, hp, mi, pot, rd, spt, wr)) ∧ i ≤ 157 ∧ w = 157 - i ∧ (∀ k, k < i → past' (n * 157 + k) = z k) ∧ ∀ k, k < n * 157 → past' k = past k) _ ?_ (n := 157) ⟨0, past, rfl, by omega, by omega, fun k h => by omega, fun k _ => rfl⟩ hf
  rintro w s ⟨i, past', rfl, h1, rfl, h2, h3⟩ J hJ
  by_cases h : i = 157
  · subst h
    simp (disch := omega) only [b_X6_remember_52, St_count, St_month, St_contribution, St_box, St_given, St_purse, St_guarantor, St_bid, St_away, St_taken, St_inside, St_paidForItself, St_paidForOthers, St_gotOfPot, St_shares, St_misses, St_debt, St_count_s, St_month_s, St_contribution_s, St_box_s, St_given_s, St_purse_s, St_guarantor_s, St_bid_s, St_away_s, St_taken_s, St_inside_s, St_paidForItself_s, St_paidForOthers_s, St_gotOfPot_s, St_shares_s, St_misses_s, St_debt_s, Rd_paid, Rd_missing, Rd_pence, Rd_paid_s, Rd_missing_s, Rd_pence_s, Md_thrown, Md_z, Md_past, Md_pastMany, Md_slots, Md_isSaved, Md_spare, Md_text, Md_typed, Md_hasPaid, Md_misses, Md_potNow, Md_read, Md_spot, Md_wrong, Md_thrown_s, Md_z_s, Md_past_s, Md_pastMany_s, Md_slots_s, Md_isSaved_s, Md_spare_s, Md_text_s, Md_typed_s, Md_hasPaid_s, Md_misses_s, Md_potNow_s, Md_read_s, Md_spot_s, Md_wrong_s, mul8, mul8r, lt_e, bd_s, gi_ok, gz2, gz8, gz40, q_add, nI_s1, nI_clamp, upd_same, nar0, nar1, c0, c1, c2, c3, c4, g0_157, g1_157, g2_157, g3_157, g4_157, g0_1, a5, a13, a21, a29, a37, a45, a53, a61, a69, a77, a85, a93, le157, Nat.le_refl, ↓reduceIte]
    exact ⟨past', rfl, h2, h3⟩
  · have nc : ¬ 157 ≤ i := by omega
    simp (disch := omega) only [b_X6_remember_52, St_count, St_month, St_contribution, St_box, St_given, St_purse, St_guarantor, St_bid, St_away, St_taken, St_inside, St_paidForItself, St_paidForOthers, St_gotOfPot, St_shares, St_misses, St_debt, St_count_s, St_month_s, St_contribution_s, St_box_s, St_given_s, St_purse_s, St_guarantor_s, St_bid_s, St_away_s, St_taken_s, St_inside_s, St_paidForItself_s, St_paidForOthers_s, St_gotOfPot_s, St_shares_s, St_misses_s, St_debt_s, Rd_paid, Rd_missing, Rd_pence, Rd_paid_s, Rd_missing_s, Rd_pence_s, Md_thrown, Md_z, Md_past, Md_pastMany, Md_slots, Md_isSaved, Md_spare, Md_text, Md_typed, Md_hasPaid, Md_misses, Md_potNow, Md_read, Md_spot, Md_wrong, Md_thrown_s, Md_z_s, Md_past_s, Md_pastMany_s, Md_slots_s, Md_isSaved_s, Md_spare_s, Md_text_s, Md_typed_s, Md_hasPaid_s, Md_misses_s, Md_potNow_s, Md_read_s, Md_spot_s, Md_wrong_s, mul8, mul8r, lt_e, bd_s, gi_ok, gz2, gz8, gz40, q_add, nI_s1, nI_clamp, upd_same, nar0, nar1, c0, c1, c2, c3, c4, g0_157, g1_157, g2_157, g3_157, g4_157, g0_1, a5, a13, a21, a29, a37, a45, a53, a61, a69, a77, a85, a93, mul157, le157, nc, ↓reduceIte]
    refine hJ _ _ (by omega) ⟨i + 1, _, rfl, by omega, rfl, fun j hj => ?_, fun j hj => ?_⟩
    · by_cases e : j = i
      · subst e; rw [upd_same]
      · rw [upd_ne (by omega)]; exact h2 j (by omega)
    · rw [upd_ne (by omega)]; exact h3 j hj
theorem fetch {fu n : Nat} (hf : 157 < fu) (hn : n ≤ 13) : One (lp b_X6_undo_37 fu ((0:Int32), (th, z, past, nI n, sl, sv, sp, tx, ty, hp, mi, pot, rd, spt, wr))) (fun e => ∃ z', e = (nI 157, (th, z', past, nI n, sl, sv, sp, tx, ty, hp, mi, pot, rd, spt, wr)) ∧ (∀ k, k < 157 → z' k = past (n * 157 + k)) ∧ ∀ k, 157 ≤ k → z' k = z k) := by
  refine lp_one (fun w s => ∃ i z', s = (nI i, (th, z', past, nI n, sl, sv, sp, tx, ty, hp, mi, pot, rd, spt, wr)) ∧ i ≤ 157 ∧ w = 157 - i ∧ (∀ k, k < i → z' k = past (n * 157 + k)) ∧ ∀ k, 157 ≤ k → z' k = z k) _ ?_ (n := 157) ⟨0, z, rfl, by omega, by omega, fun k h => by omega, fun k _ => rfl⟩ hf
  rintro w s ⟨i, z', rfl, h1, rfl, h2, h3⟩ J hJ
  by_cases h : i = 157
  · subst h
    simp (disch := omega) only [b_X6_undo_37, St_count, St_month, St_contribution, St_box, St_given, St_purse, St_guarantor, St_bid, St_away, St_taken, St_inside, St_paidForItself, St_paidForOthers, St_gotOfPot, St_shares, St_misses, St_debt, St_count_s, St_month_s, St_contribution_s, St_box_s, St_given_s, St_purse_s, St_guarantor_s, St_bid_s, St_away_s, St_taken_s, St_inside_s, St_paidForItself_s, St_paidForOthers_s, St_gotOfPot_s, St_shares_s, St_misses_s, St_debt_s, Rd_paid, Rd_missing, Rd_pence, Rd_paid_s, Rd_missing_s, Rd_pence_s, Md_thrown, Md_z, Md_past, Md_pastMany, Md_slots, Md_isSaved, Md_spare, Md_text, Md_typed, Md_hasPaid, Md_misses, Md_potNow, Md_read, Md_spot, Md_wrong, Md_thrown_s, Md_z_s, Md_past_s, Md_pastMany_s, Md_slots_s, Md_isSaved_s, Md_spare_s, Md_text_s, Md_typed_s, Md_hasPaid_s, Md_misses_s, Md_potNow_s, Md_read_s, Md_spot_s, Md_wrong_s, mul8, mul8r, lt_e, bd_s, gi_ok, gz2, gz8, gz40, q_add, nI_s1, nI_clamp, upd_same, nar0, nar1, c0, c1, c2, c3, c4, g0_157, g1_157, g2_157, g3_157, g4_157, g0_1, a5, a13, a21, a29, a37, a45, a53, a61, a69, a77, a85, a93, le157, Nat.le_refl, ↓reduceIte]
    exact ⟨z', rfl, h2, h3⟩
  · have nc : ¬ 157 ≤ i := by omega
    simp (disch := omega) only [b_X6_undo_37, St_count, St_month, St_contribution, St_box, St_given, St_purse, St_guarantor, St_bid, St_away, St_taken, St_inside, St_paidForItself, St_paidForOthers, St_gotOfPot, St_shares, St_misses, St_debt, St_count_s, St_month_s, St_contribution_s, St_box_s, St_given_s, St_purse_s, St_guarantor_s, St_bid_s, St_away_s, St_taken_s, St_inside_s, St_paidForItself_s, St_paidForOthers_s, St_gotOfPot_s, St_shares_s, St_misses_s, St_debt_s, Rd_paid, Rd_missing, Rd_pence, Rd_paid_s, Rd_missing_s, Rd_pence_s, Md_thrown, Md_z, Md_past, Md_pastMany, Md_slots, Md_isSaved, Md_spare, Md_text, Md_typed, Md_hasPaid, Md_misses, Md_potNow, Md_read, Md_spot, Md_wrong, Md_thrown_s, Md_z_s, Md_past_s, Md_pastMany_s, Md_slots_s, Md_isSaved_s, Md_spare_s, Md_text_s, Md_typed_s, Md_hasPaid_s, Md_misses_s, Md_potNow_s, Md_read_s, Md_spot_s, Md_wrong_s, mul8, mul8r, lt_e, bd_s, gi_ok, gz2, gz8, gz40, q_add, nI_s1, nI_clamp, upd_same, nar0, nar1, c0, c1, c2, c3, c4, g0_157, g1_157, g2_157, g3_157, g4_157, g0_1, a5, a13, a21, a29, a37, a45, a53, a61, a69, a77, a85, a93, mul157, le157, nc, ↓reduceIte]
    refine hJ _ _ (by omega) ⟨i + 1, _, rfl, by omega, rfl, fun j hj => ?_, fun j hj => ?_⟩
    · by_cases e : j = i
      · subst e; rw [upd_same]
      · rw [upd_ne e]; exact h2 j (by omega)
    · rw [upd_ne (by omega)]; exact h3 j hj
theorem next_x {n q : Nat} {f : Nat → StV} {v v' : StV} (hn : n ≤ 14) (hq : q < 14) (e : f_X3_copyFrom (f q) v = some ((), v')) : f_X0_remember (nI n, nI q, f) v = some ((), (nI (if n = 14 then 14 else n + 1), nI ((q + 1) % 14), upS f q v')) := by
  have e14 : (14:Int32) = nI 14 := rfl
  by_cases h1 : q = 13
  · subst h1
    by_cases h2 : n = 14
    · subst h2
      simp (decide := true) (disch := omega) only [f_X0_remember, Pa_next, Pa_states, Pa_states_s, Pa_next_s, Pa_size, Pa_size_s, mul8, mul8r, lt_e, bd_s, gi_ok, gz2, gz8, gz40, q_add, nI_s1, nI_clamp, upd_same, nar0, nar1, c0, c1, c2, c3, c4, g0_157, g1_157, g2_157, g3_157, g4_157, g0_1, a5, a13, a21, a29, a37, a45, a53, a61, a69, a77, a85, a93, e, le14, e14, nI_lti, nI_lei, ↓reduceIte]
      rfl
    · have h3 : ¬ 14 < n + 1 := by omega
      simp (decide := true) (disch := omega) only [f_X0_remember, Pa_next, Pa_states, Pa_states_s, Pa_next_s, Pa_size, Pa_size_s, mul8, mul8r, lt_e, bd_s, gi_ok, gz2, gz8, gz40, q_add, nI_s1, nI_clamp, upd_same, nar0, nar1, c0, c1, c2, c3, c4, g0_157, g1_157, g2_157, g3_157, g4_157, g0_1, a5, a13, a21, a29, a37, a45, a53, a61, a69, a77, a85, a93, e, le14, e14, nI_lti, nI_lei, h2, h3, ↓reduceIte]
      rfl
  · have h4 : ¬ 14 ≤ q + 1 := by omega
    have h5 : (q + 1) % 14 = q + 1 := Nat.mod_eq_of_lt (by omega)
    by_cases h2 : n = 14
    · subst h2
      simp (decide := true) (disch := omega) only [f_X0_remember, Pa_next, Pa_states, Pa_states_s, Pa_next_s, Pa_size, Pa_size_s, mul8, mul8r, lt_e, bd_s, gi_ok, gz2, gz8, gz40, q_add, nI_s1, nI_clamp, upd_same, nar0, nar1, c0, c1, c2, c3, c4, g0_157, g1_157, g2_157, g3_157, g4_157, g0_1, a5, a13, a21, a29, a37, a45, a53, a61, a69, a77, a85, a93, e, le14, e14, nI_lti, nI_lei, h4, h5, ↓reduceIte]
    · have h3 : ¬ 14 < n + 1 := by omega
      simp (decide := true) (disch := omega) only [f_X0_remember, Pa_next, Pa_states, Pa_states_s, Pa_next_s, Pa_size, Pa_size_s, mul8, mul8r, lt_e, bd_s, gi_ok, gz2, gz8, gz40, q_add, nI_s1, nI_clamp, upd_same, nar0, nar1, c0, c1, c2, c3, c4, g0_157, g1_157, g2_157, g3_157, g4_157, g0_1, a5, a13, a21, a29, a37, a45, a53, a61, a69, a77, a85, a93, e, le14, e14, nI_lti, nI_lei, h2, h3, h4, h5, ↓reduceIte]
theorem remember {pa : PaV} {v : StV} (hp9 : Pst pa past pm) (hv : Now v z) : ∃ pa' past' pm', f_X0_remember pa v = some ((), pa') ∧ f_X6_remember (th, z, past, pm, sl, sv, sp, tx, ty, hp, mi, pot, rd, spt, wr) = some ((), (th, z, past', pm', sl, sv, sp, tx, ty, hp, mi, pot, rd, spt, wr)) ∧ Pst pa' past' pm' := by
  obtain ⟨n, q, hn, hq, h1, h2, h3, h4⟩ := hp9
  obtain ⟨sz, nx, f⟩ := pa
  have h1 : sz = nI n := h1
  have h2 : nx = nI q := h2
  subst h1; subst h2; subst h3
  obtain ⟨c, m, hm, g⟩ := id hv
  obtain ⟨v', e, g'⟩ := g.copy (f q)
  by_cases hn14 : n = 14
  · subst hn14
    obtain ⟨e1, a1, past1, rfl, b1⟩ := lp_get (n := 2041) (by omega) (fun fu hf => push (fu := fu) hf (th := th) (z := z) (past := past) (pm := nI 14) (sl := sl) (sv := sv) (sp := sp) (tx := tx) (ty := ty) (hp := hp) (mi := mi) (pot := pot) (rd := rd) (spt := spt) (wr := wr))
    obtain ⟨e2, a2, past2, rfl, b2, b3⟩ := lp_get (n := 157) (by omega) (fun fu hf => note (fu := fu) (n := 13) hf (by omega) (th := th) (z := z) (past := past1) (sl := sl) (sv := sv) (sp := sp) (tx := tx) (ty := ty) (hp := hp) (mi := mi) (pot := pot) (rd := rd) (spt := spt) (wr := wr))
    have a2 : lp b_X6_remember_52 FU ((0:Int32), (th, z, past1, nI 14 - 1, sl, sv, sp, tx, ty, hp, mi, pot, rd, spt, wr)) = _ := a2
    refine ⟨_, past2, nI 14, next_x (by omega) hq e, ?_, 14, (q + 1) % 14, by omega, Nat.mod_lt _ (by omega), rfl, rfl, rfl, fun j hj => ?_⟩
    · simp (decide := true) (disch := omega) only [f_X6_remember, a1, a2, bd_s, St_count, St_month, St_contribution, St_box, St_given, St_purse, St_guarantor, St_bid, St_away, St_taken, St_inside, St_paidForItself, St_paidForOthers, St_gotOfPot, St_shares, St_misses, St_debt, St_count_s, St_month_s, St_contribution_s, St_box_s, St_given_s, St_purse_s, St_guarantor_s, St_bid_s, St_away_s, St_taken_s, St_inside_s, St_paidForItself_s, St_paidForOthers_s, St_gotOfPot_s, St_shares_s, St_misses_s, St_debt_s, Rd_paid, Rd_missing, Rd_pence, Rd_paid_s, Rd_missing_s, Rd_pence_s, Md_thrown, Md_z, Md_past, Md_pastMany, Md_slots, Md_isSaved, Md_spare, Md_text, Md_typed, Md_hasPaid, Md_misses, Md_potNow, Md_read, Md_spot, Md_wrong, Md_thrown_s, Md_z_s, Md_past_s, Md_pastMany_s, Md_slots_s, Md_isSaved_s, Md_spare_s, Md_text_s, Md_typed_s, Md_hasPaid_s, Md_misses_s, Md_potNow_s, Md_read_s, Md_spot_s, Md_wrong_s, lt, eq14, ↓reduceIte]
      rfl
    · show Now (upS f q v' (((q + 1) % 14 + 14 - 14 + j) % 14)) _
      by_cases hj13 : j = 13
      · subst hj13
        have hx : ((q + 1) % 14 + 14 - 14 + 13) % 14 = q := by omega
        rw [hx, Seg_of (z := z) b2 g.out]
        unfold upS
        rw [if_pos rfl]
        exact ⟨c, m, hm, g'⟩
      · have hx : ((q + 1) % 14 + 14 - 14 + j) % 14 = (q + 14 - 14 + (j + 1)) % 14 := by omega
        have hy : ¬ (q + 14 - 14 + (j + 1)) % 14 = q := by omega
        rw [hx]
        unfold upS
        rw [if_neg hy]
        have hs : Seg past2 j = Seg past (j + 1) := by
          refine Seg_of (fun k hk => ?_) (fun k hk => by unfold Seg; rw [if_neg (by omega)])
          rw [b3 _ (by omega), b1 _ (by omega)]
          unfold Seg
          rw [if_pos hk, show j * 157 + k + 157 = (j + 1) * 157 + k by omega]
        rw [hs]
        exact h4 (j + 1) (by omega)
  · obtain ⟨e2, a2, past2, rfl, b2, b3⟩ := lp_get (n := 157) (by omega) (fun fu hf => note (fu := fu) (n := n) hf (by omega) (th := th) (z := z) (past := past) (sl := sl) (sv := sv) (sp := sp) (tx := tx) (ty := ty) (hp := hp) (mi := mi) (pot := pot) (rd := rd) (spt := spt) (wr := wr))
    have hnx := next_x (f := f) hn hq e
    rw [if_neg hn14] at hnx
    refine ⟨_, past2, nI (n + 1), hnx, ?_, n + 1, (q + 1) % 14, by omega, Nat.mod_lt _ (by omega), rfl, rfl, rfl, fun j hj => ?_⟩
    · simp (disch := omega) only [f_X6_remember, a2, bd_s, St_count, St_month, St_contribution, St_box, St_given, St_purse, St_guarantor, St_bid, St_away, St_taken, St_inside, St_paidForItself, St_paidForOthers, St_gotOfPot, St_shares, St_misses, St_debt, St_count_s, St_month_s, St_contribution_s, St_box_s, St_given_s, St_purse_s, St_guarantor_s, St_bid_s, St_away_s, St_taken_s, St_inside_s, St_paidForItself_s, St_paidForOthers_s, St_gotOfPot_s, St_shares_s, St_misses_s, St_debt_s, Rd_paid, Rd_missing, Rd_pence, Rd_paid_s, Rd_missing_s, Rd_pence_s, Md_thrown, Md_z, Md_past, Md_pastMany, Md_slots, Md_isSaved, Md_spare, Md_text, Md_typed, Md_hasPaid, Md_misses, Md_potNow, Md_read, Md_spot, Md_wrong, Md_thrown_s, Md_z_s, Md_past_s, Md_pastMany_s, Md_slots_s, Md_isSaved_s, Md_spare_s, Md_text_s, Md_typed_s, Md_hasPaid_s, Md_misses_s, Md_potNow_s, Md_read_s, Md_spot_s, Md_wrong_s, lt, eq14, hn14, nI_s1, ↓reduceIte]
    · show Now (upS f q v' (((q + 1) % 14 + 14 - (n + 1) + j) % 14)) _
      by_cases hjn : j = n
      · subst hjn
        have hx : ((q + 1) % 14 + 14 - (j + 1) + j) % 14 = q := by omega
        rw [hx, Seg_of (z := z) b2 g.out]
        unfold upS
        rw [if_pos rfl]
        exact ⟨c, m, hm, g'⟩
      · have hx : ((q + 1) % 14 + 14 - (n + 1) + j) % 14 = (q + 14 - n + j) % 14 := by omega
        have hy : ¬ (q + 14 - n + j) % 14 = q := by omega
        rw [hx]
        unfold upS
        rw [if_neg hy]
        have hs : Seg past2 j = Seg past j := by
          refine Seg_of (fun k hk => ?_) (fun k hk => by unfold Seg; rw [if_neg (by omega)])
          rw [b3 _ (by
            have : (j + 1) * 157 ≤ n * 157 := Nat.mul_le_mul_right _ (by omega)
            omega)]
          unfold Seg
          rw [if_pos hk]
        rw [hs]
        exact h4 j (by omega)
theorem act_undo {pa : PaV} {v : StV} (hp9 : Pst pa past pm) (hv : Now v z) : Two (f_X5_undo v pa) (f_X6_undo (th, z, past, pm, sl, sv, sp, tx, ty, hp, mi, pot, rd, spt, wr)) (Ans (fun s k => s = ISE ∧ k = 1) (fun (w : StV × PaV) q => ∃ t z' past' pm', q = (t, z', past', pm', sl, sv, sp, tx, ty, hp, mi, pot, rd, spt, wr) ∧ Now w.1 z' ∧ Pst w.2 past' pm')) := by
  obtain ⟨n, q, hn, hq, h1, h2, h3, h4⟩ := id hp9
  obtain ⟨sz, nx, f⟩ := pa
  have h1 : sz = nI n := h1
  have h2 : nx = nI q := h2
  subst h1; subst h2; subst h3
  by_cases h0 : n = 0
  · subst h0
    refine tw_mk (a := .inr (ISE, (v, (nI 0, nI q, f)))) (b := ((0:Int32), (1, z, past, nI 0, sl, sv, sp, tx, ty, hp, mi, pot, rd, spt, wr))) ?_ ?_ ⟨1, ⟨rfl, rfl⟩, rfl, 1, z, past, nI 0, rfl, hv, hp9⟩
    · have e : ¬ (0:Int32) < nI 0 := by decide
      simp only [f_X5_undo, Pa_size, e, ↓reduceIte]
    · simp (disch := omega) only [f_X6_undo, St_count, St_month, St_contribution, St_box, St_given, St_purse, St_guarantor, St_bid, St_away, St_taken, St_inside, St_paidForItself, St_paidForOthers, St_gotOfPot, St_shares, St_misses, St_debt, St_count_s, St_month_s, St_contribution_s, St_box_s, St_given_s, St_purse_s, St_guarantor_s, St_bid_s, St_away_s, St_taken_s, St_inside_s, St_paidForItself_s, St_paidForOthers_s, St_gotOfPot_s, St_shares_s, St_misses_s, St_debt_s, Rd_paid, Rd_missing, Rd_pence, Rd_paid_s, Rd_missing_s, Rd_pence_s, Md_thrown, Md_z, Md_past, Md_pastMany, Md_slots, Md_isSaved, Md_spare, Md_text, Md_typed, Md_hasPaid, Md_misses, Md_potNow, Md_read, Md_spot, Md_wrong, Md_thrown_s, Md_z_s, Md_past_s, Md_pastMany_s, Md_slots_s, Md_isSaved_s, Md_spare_s, Md_text_s, Md_typed_s, Md_hasPaid_s, Md_misses_s, Md_potNow_s, Md_read_s, Md_spot_s, Md_wrong_s, lt, eq0, ole, ↓reduceIte]
  · have hpos : (0:Int32) < nI n := nI_lt (a := 0) (by omega) (by omega)
    obtain ⟨c, m, hm, g⟩ := h4 (n - 1) (by omega)
    have hx : (q + 14 - n + (n - 1)) % 14 = (q + 13) % 14 := by omega
    rw [hx] at g
    obtain ⟨v', e, g'⟩ := g.copy v
    obtain ⟨c0, m0, -, g0⟩ := id hv
    obtain ⟨e2, a2, z', rfl, b2, b3⟩ := lp_get (n := 157) (by omega) (fun fu hf => fetch (fu := fu) (n := n - 1) hf (by omega) (th := (0:Int32)) (z := z) (past := past) (sl := sl) (sv := sv) (sp := sp) (tx := tx) (ty := ty) (hp := hp) (mi := mi) (pot := pot) (rd := rd) (spt := spt) (wr := wr))
    have hz : z' = Seg past (n - 1) := by
      funext k
      unfold Seg
      by_cases w : k < 157
      · rw [if_pos w, b2 k w]
      · rw [if_neg w, b3 k (by omega), g0.out k (by omega)]
    subst hz
    refine tw_mk (a := .inl (nI (n - 1), (v', (nI (n - 1), nI ((q + 13) % 14), f)))) (b := (nI (n - 1), (0, Seg past (n - 1), past, nI (n - 1), sl, sv, sp, tx, ty, hp, mi, pot, rd, spt, wr))) ?_ ?_ ⟨rfl, rfl, 0, Seg past (n - 1), past, nI (n - 1), rfl, ⟨c, m, hm, g'⟩, n - 1, (q + 13) % 14, by omega, Nat.mod_lt _ (by omega), rfl, rfl, rfl, fun j hj => ?_⟩
    · by_cases hq0 : q = 0
      · subst hq0
        have hc13 : Int32.toNatClampNeg 13 = 13 := rfl
        have e : f_X3_copyFrom v (f 13) = some ((), v') := e
        have g13 : ∀ {B : Type} {k : Option B}, gi (13:Int32) 14 k = k := rfl
        simp (disch := omega) only [f_X5_undo, f_X0_takeBack, Pa_size, Pa_next, Pa_next_s, Pa_size_s, Pa_states, hpos, ge0, Nat.le_refl, lt, sub1, g13, hc13, e, bd_s, ↓reduceIte]
        rfl
      · have nq : ¬ q ≤ 0 := by omega
        have hmod : (q + 13) % 14 = q - 1 := by omega
        rw [hmod] at e ⊢
        simp (disch := omega) only [f_X5_undo, f_X0_takeBack, Pa_size, Pa_next, Pa_next_s, Pa_size_s, Pa_states, hpos, ge0, nq, lt, sub1, gi_ok, nI_clamp, e, bd_s, ↓reduceIte]
    · simp (disch := omega) only [f_X6_undo, St_count, St_month, St_contribution, St_box, St_given, St_purse, St_guarantor, St_bid, St_away, St_taken, St_inside, St_paidForItself, St_paidForOthers, St_gotOfPot, St_shares, St_misses, St_debt, St_count_s, St_month_s, St_contribution_s, St_box_s, St_given_s, St_purse_s, St_guarantor_s, St_bid_s, St_away_s, St_taken_s, St_inside_s, St_paidForItself_s, St_paidForOthers_s, St_gotOfPot_s, St_shares_s, St_misses_s, St_debt_s, Rd_paid, Rd_missing, Rd_pence, Rd_paid_s, Rd_missing_s, Rd_pence_s, Md_thrown, Md_z, Md_past, Md_pastMany, Md_slots, Md_isSaved, Md_spare, Md_text, Md_typed, Md_hasPaid, Md_misses, Md_potNow, Md_read, Md_spot, Md_wrong, Md_thrown_s, Md_z_s, Md_past_s, Md_pastMany_s, Md_slots_s, Md_isSaved_s, Md_spare_s, Md_text_s, Md_typed_s, Md_hasPaid_s, Md_misses_s, Md_potNow_s, Md_read_s, Md_spot_s, Md_wrong_s, lt, eq0, h0, zle, sub1, a2, bd_s, ↓reduceIte]
    · show Now (f (((q + 13) % 14 + 14 - (n - 1) + j) % 14)) _
      have hy : ((q + 13) % 14 + 14 - (n - 1) + j) % 14 = (q + 14 - n + j) % 14 := by omega
      rw [hy]
      exact h4 j (by omega)
end PAST
