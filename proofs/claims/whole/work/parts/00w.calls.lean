/-! the text: read whole; the four calls of it -/
def Txt (tv : TxV) (tx : Nat → Int32) (ty : Int32) : Prop := ∃ n, Tx_length tv = nI n ∧ ty = nI n ∧ Sg n (Tx_signs tv) tx
section CALLS
variable {th : Int32} {z past : Nat → Int32} {pm : Int32} {sl sv sp tx : Nat → Int32} {ty : Int32} {hp mi : Nat → Int32} {pot : Int32} {rd : Nat → Int32} {spt wr : Int32}
variable {n : Nat} {sg : Nat → Int32} {v : StV} {pa : PaV}
theorem wipe {fu : Nat} (hf : 157 < fu) : One (lp b_X6_readText_2 fu ((0:Int32), (th, z, past, pm, sl, sv, sp, tx, ty, hp, mi, pot, rd, spt, wr))) (fun e => ∃ rd', e = (nI 157, (th, z, past, pm, sl, sv, sp, tx, ty, hp, mi, pot, rd', spt, wr)) ∧ (∀ k, k < 157 → rd' k = 0) ∧ ∀ k, 157 ≤ k → rd' k = rd k) := by
  refine lp_one (fun w s => ∃ i rd', s = (nI i, (th, z, past, pm, sl, sv, sp, tx, ty, hp, mi, pot, rd', spt, wr)) ∧ i ≤ 157 ∧ w = 157 - i ∧ (∀ k, k < i → rd' k = 0) ∧ ∀ k, 157 ≤ k → rd' k = rd k) _ ?_ (n := 157) ⟨0, rd, rfl, by omega, by omega, fun k h => by omega, fun k _ => rfl⟩ hf
  rintro w s ⟨i, rd', rfl, h1, rfl, h2, h3⟩ J hJ
  by_cases h : i = 157
  · subst h
    simp (disch := omega) only [b_X6_readText_2, St_count, St_month, St_contribution, St_box, St_given, St_purse, St_guarantor, St_bid, St_away, St_taken, St_inside, St_paidForItself, St_paidForOthers, St_gotOfPot, St_shares, St_misses, St_debt, St_count_s, St_month_s, St_contribution_s, St_box_s, St_given_s, St_purse_s, St_guarantor_s, St_bid_s, St_away_s, St_taken_s, St_inside_s, St_paidForItself_s, St_paidForOthers_s, St_gotOfPot_s, St_shares_s, St_misses_s, St_debt_s, Rd_paid, Rd_missing, Rd_pence, Rd_paid_s, Rd_missing_s, Rd_pence_s, Md_thrown, Md_z, Md_past, Md_pastMany, Md_slots, Md_isSaved, Md_spare, Md_text, Md_typed, Md_hasPaid, Md_misses, Md_potNow, Md_read, Md_spot, Md_wrong, Md_thrown_s, Md_z_s, Md_past_s, Md_pastMany_s, Md_slots_s, Md_isSaved_s, Md_spare_s, Md_text_s, Md_typed_s, Md_hasPaid_s, Md_misses_s, Md_potNow_s, Md_read_s, Md_spot_s, Md_wrong_s, mul8, mul8r, lt_e, bd_s, gi_ok, gz2, gz8, gz40, q_add, nI_s1, nI_clamp, upd_same, nar0, nar1, c0, c1, c2, c3, c4, g0_157, g1_157, g2_157, g3_157, g4_157, g0_1, a5, a13, a21, a29, a37, a45, a53, a61, a69, a77, a85, a93, le157, Nat.le_refl, ↓reduceIte]
    exact ⟨rd', rfl, h2, h3⟩
  · have nc : ¬ 157 ≤ i := by omega
    simp (disch := omega) only [b_X6_readText_2, St_count, St_month, St_contribution, St_box, St_given, St_purse, St_guarantor, St_bid, St_away, St_taken, St_inside, St_paidForItself, St_paidForOthers, St_gotOfPot, St_shares, St_misses, St_debt, St_count_s, St_month_s, St_contribution_s, St_box_s, St_given_s, St_purse_s, St_guarantor_s, St_bid_s, St_away_s, St_taken_s, St_inside_s, St_paidForItself_s, St_paidForOthers_s, St_gotOfPot_s, St_shares_s, St_misses_s, St_debt_s, Rd_paid, Rd_missing, Rd_pence, Rd_paid_s, Rd_missing_s, Rd_pence_s, Md_thrown, Md_z, Md_past, Md_pastMany, Md_slots, Md_isSaved, Md_spare, Md_text, Md_typed, Md_hasPaid, Md_misses, Md_potNow, Md_read, Md_spot, Md_wrong, Md_thrown_s, Md_z_s, Md_past_s, Md_pastMany_s, Md_slots_s, Md_isSaved_s, Md_spare_s, Md_text_s, Md_typed_s, Md_hasPaid_s, Md_misses_s, Md_potNow_s, Md_read_s, Md_spot_s, Md_wrong_s, mul8, mul8r, lt_e, bd_s, gi_ok, gz2, gz8, gz40, q_add, nI_s1, nI_clamp, upd_same, nar0, nar1, c0, c1, c2, c3, c4, g0_157, g1_157, g2_157, g3_157, g4_157, g0_1, a5, a13, a21, a29, a37, a45, a53, a61, a69, a77, a85, a93, le157, nc, ↓reduceIte]
    refine hJ _ _ (by omega) ⟨i + 1, _, rfl, by omega, rfl, fun q hq => ?_, fun q hq => ?_⟩
    · by_cases e : q = i
      · subst e; rw [upd_same]
      · rw [upd_ne e]; exact h2 q (by omega)
    · rw [upd_ne (by omega)]; exact h3 q hq
theorem wipe_f (hz : Zr rd) : lp b_X6_readText_2 FU ((0:Int32), (th, z, past, pm, sl, sv, sp, tx, ty, hp, mi, pot, rd, spt, wr)) = some (nI 157, (th, z, past, pm, sl, sv, sp, tx, ty, hp, mi, pot, (fun _ => (0:Int32)), spt, wr)) := by
  obtain ⟨e, e1, rd', rfl, h1, h2⟩ := lp_get (n := 157) (by omega) (fun fu hf => wipe (fu := fu) hf (th := th) (z := z) (past := past) (pm := pm) (sl := sl) (sv := sv) (sp := sp) (tx := tx) (ty := ty) (hp := hp) (mi := mi) (pot := pot) (rd := rd) (spt := spt) (wr := wr))
  have e : rd' = (fun _ => (0:Int32)) := by
    funext k
    by_cases q : k < 157
    · exact h1 k q
    · rw [h2 k (by omega)]; exact hz k (by omega)
  rw [e1, e]
theorem read_both (h : Sg n sg tx) (hz : Zr rd) (at0 : Int32) (v0 : StV) : ∃ a e v' rd' s' w', f_X4_readInto (sg, nI n, at0) v0 = some (e, ((sg, nI n, a), v')) ∧ f_X6_readText (th, z, past, pm, sl, sv, sp, tx, nI n, hp, mi, pot, rd, spt, wr) = some (e, (th, z, past, pm, sl, sv, sp, tx, nI n, hp, mi, pot, rd', s', w')) ∧ Zr rd' ∧ (e = (-99999:Int32) → Now v' rd') := by
  have h1 := h.1
  have w0 := wipe_f hz (th := th) (z := z) (past := past) (pm := pm) (sl := sl) (sv := sv) (sp := sp) (tx := tx) (ty := nI n) (hp := hp) (mi := mi) (pot := pot) (spt := spt) (wr := wr)
  rcases contr h v0 (th := th) (z := z) (past := past) (pm := pm) (sl := sl) (sv := sv) (sp := sp) (hp := hp) (mi := mi) (pot := pot) (spt := spt) with ⟨q, v', q1, q2, q3, g, c1, c2⟩ | ⟨e, v', rd', s', q1, q2, c1, c2⟩
  · obtain ⟨e, f, p1, p2, pk⟩ := tw_get (parts_both h q3 g (th := th) (z := z) (past := past) (pm := pm) (sl := sl) (sv := sv) (sp := sp) (hp := hp) (mi := mi) (pot := pot))
    rcases pk with ⟨c', v2, rd2, p', k, rfl, rfl, g2⟩ | ⟨a, v2, rd2, s2, rfl, ha, rfl, hz2⟩
    · refine ⟨nI p', -99999, v2, rd2, nI p', -99999, ?_, ?_, g2.out, fun _ => ⟨c', 0, by omega, g2⟩⟩
      · simp only [f_X4_readInto, f_X4_readParts, Tx_at_s, lt_e, c1, bd_s, o_ne, p1, el_l, ↓reduceIte]
      · simp only [f_X6_readText, w0, St_count, St_month, St_contribution, St_box, St_given, St_purse, St_guarantor, St_bid, St_away, St_taken, St_inside, St_paidForItself, St_paidForOthers, St_gotOfPot, St_shares, St_misses, St_debt, St_count_s, St_month_s, St_contribution_s, St_box_s, St_given_s, St_purse_s, St_guarantor_s, St_bid_s, St_away_s, St_taken_s, St_inside_s, St_paidForItself_s, St_paidForOthers_s, St_gotOfPot_s, St_shares_s, St_misses_s, St_debt_s, Rd_paid, Rd_missing, Rd_pence, Rd_paid_s, Rd_missing_s, Rd_pence_s, Md_thrown, Md_z, Md_past, Md_pastMany, Md_slots, Md_isSaved, Md_spare, Md_text, Md_typed, Md_hasPaid, Md_misses, Md_potNow, Md_read, Md_spot, Md_wrong, Md_thrown_s, Md_z_s, Md_past_s, Md_pastMany_s, Md_slots_s, Md_isSaved_s, Md_spare_s, Md_text_s, Md_typed_s, Md_hasPaid_s, Md_misses_s, Md_potNow_s, Md_read_s, Md_spot_s, Md_wrong_s, lt_e, c2, bd_s, p2]
    · refine ⟨nI a, nI a, v2, rd2, s2, nI a, ?_, ?_, hz2, fun q => ((nI_neg (by omega)).mp q).elim⟩
      · simp only [f_X4_readInto, f_X4_readParts, Tx_at_s, lt_e, c1, bd_s, o_ne, p1, el_r, ↓reduceIte]
      · simp only [f_X6_readText, w0, St_count, St_month, St_contribution, St_box, St_given, St_purse, St_guarantor, St_bid, St_away, St_taken, St_inside, St_paidForItself, St_paidForOthers, St_gotOfPot, St_shares, St_misses, St_debt, St_count_s, St_month_s, St_contribution_s, St_box_s, St_given_s, St_purse_s, St_guarantor_s, St_bid_s, St_away_s, St_taken_s, St_inside_s, St_paidForItself_s, St_paidForOthers_s, St_gotOfPot_s, St_shares_s, St_misses_s, St_debt_s, Rd_paid, Rd_missing, Rd_pence, Rd_paid_s, Rd_missing_s, Rd_pence_s, Md_thrown, Md_z, Md_past, Md_pastMany, Md_slots, Md_isSaved, Md_spare, Md_text, Md_typed, Md_hasPaid, Md_misses, Md_potNow, Md_read, Md_spot, Md_wrong, Md_thrown_s, Md_z_s, Md_past_s, Md_pastMany_s, Md_slots_s, Md_isSaved_s, Md_spare_s, Md_text_s, Md_typed_s, Md_hasPaid_s, Md_misses_s, Md_potNow_s, Md_read_s, Md_spot_s, Md_wrong_s, lt_e, c2, bd_s, p2]
  · have p2 : lp b_X6_readText_32 FU (th, z, past, pm, sl, sv, sp, tx, nI n, hp, mi, pot, rd', s', nI e) = some (th, z, past, pm, sl, sv, sp, tx, nI n, hp, mi, pot, rd', s', nI e) := by
      refine lp_mono 1 FU _ _ (FU_le (by omega)) (lp_x (k := 0) ?_)
      simp (disch := omega) only [b_X6_readText_32, St_count, St_month, St_contribution, St_box, St_given, St_purse, St_guarantor, St_bid, St_away, St_taken, St_inside, St_paidForItself, St_paidForOthers, St_gotOfPot, St_shares, St_misses, St_debt, St_count_s, St_month_s, St_contribution_s, St_box_s, St_given_s, St_purse_s, St_guarantor_s, St_bid_s, St_away_s, St_taken_s, St_inside_s, St_paidForItself_s, St_paidForOthers_s, St_gotOfPot_s, St_shares_s, St_misses_s, St_debt_s, Rd_paid, Rd_missing, Rd_pence, Rd_paid_s, Rd_missing_s, Rd_pence_s, Md_thrown, Md_z, Md_past, Md_pastMany, Md_slots, Md_isSaved, Md_spare, Md_text, Md_typed, Md_hasPaid, Md_misses, Md_potNow, Md_read, Md_spot, Md_wrong, Md_thrown_s, Md_z_s, Md_past_s, Md_pastMany_s, Md_slots_s, Md_isSaved_s, Md_spare_s, Md_text_s, Md_typed_s, Md_hasPaid_s, Md_misses_s, Md_potNow_s, Md_read_s, Md_spot_s, Md_wrong_s, nI_neg, ↓reduceIte]
    refine ⟨nI e, nI e, v', rd', s', nI e, ?_, ?_, q2, fun q => ((nI_neg (by omega)).mp q).elim⟩
    · simp only [f_X4_readInto, Tx_at_s, lt_e, c1, bd_s, ↓reduceIte]
    · simp only [f_X6_readText, w0, St_count, St_month, St_contribution, St_box, St_given, St_purse, St_guarantor, St_bid, St_away, St_taken, St_inside, St_paidForItself, St_paidForOthers, St_gotOfPot, St_shares, St_misses, St_debt, St_count_s, St_month_s, St_contribution_s, St_box_s, St_given_s, St_purse_s, St_guarantor_s, St_bid_s, St_away_s, St_taken_s, St_inside_s, St_paidForItself_s, St_paidForOthers_s, St_gotOfPot_s, St_shares_s, St_misses_s, St_debt_s, Rd_paid, Rd_missing, Rd_pence, Rd_paid_s, Rd_missing_s, Rd_pence_s, Md_thrown, Md_z, Md_past, Md_pastMany, Md_slots, Md_isSaved, Md_spare, Md_text, Md_typed, Md_hasPaid, Md_misses, Md_potNow, Md_read, Md_spot, Md_wrong, Md_thrown_s, Md_z_s, Md_past_s, Md_pastMany_s, Md_slots_s, Md_isSaved_s, Md_spare_s, Md_text_s, Md_typed_s, Md_hasPaid_s, Md_misses_s, Md_potNow_s, Md_read_s, Md_spot_s, Md_wrong_s, lt_e, c2, bd_s, p2]
theorem do_append {tv : TxV} (ht : Txt tv tx ty) (i : Int32) : Two (f_X5_append tv i) (f_X6_append (th, z, past, pm, sl, sv, sp, tx, ty, hp, mi, pot, rd, spt, wr) i) (Ans (fun s k => (s = IAE ∧ k = 1) ∨ (s = ISE ∧ k = 2)) (fun (w : TxV) q => ∃ t tx' ty', q = (t, z, past, pm, sl, sv, sp, tx', ty', hp, mi, pot, rd, spt, wr) ∧ Txt w tx' ty')) := by
  rcases rng2 i 0 255 (by omega) (by omega) with hb | ⟨x, -, hx, rfl⟩
  · have e1 : f_X5_requireRange i (0:Int32) (255:Int32) = some (.inr (IAE, ())) := rr_no hb
    have e2 : f_X6_in i (0:Int32) (255:Int32) = some ((0:Int32), ()) := in_no hb
    refine tw_mk (a := .inr (IAE, tv)) (b := ((0:Int32), (1, z, past, pm, sl, sv, sp, tx, ty, hp, mi, pot, rd, spt, wr))) ?_ ?_ ⟨1, Or.inl ⟨rfl, rfl⟩, rfl, 1, tx, ty, rfl, ht⟩
    · simp only [f_X5_append, e1, bx_r]
    · simp only [f_X6_append, e2, bd_s, lt, St_count, St_month, St_contribution, St_box, St_given, St_purse, St_guarantor, St_bid, St_away, St_taken, St_inside, St_paidForItself, St_paidForOthers, St_gotOfPot, St_shares, St_misses, St_debt, St_count_s, St_month_s, St_contribution_s, St_box_s, St_given_s, St_purse_s, St_guarantor_s, St_bid_s, St_away_s, St_taken_s, St_inside_s, St_paidForItself_s, St_paidForOthers_s, St_gotOfPot_s, St_shares_s, St_misses_s, St_debt_s, Rd_paid, Rd_missing, Rd_pence, Rd_paid_s, Rd_missing_s, Rd_pence_s, Md_thrown, Md_z, Md_past, Md_pastMany, Md_slots, Md_isSaved, Md_spare, Md_text, Md_typed, Md_hasPaid, Md_misses, Md_potNow, Md_read, Md_spot, Md_wrong, Md_thrown_s, Md_z_s, Md_past_s, Md_pastMany_s, Md_slots_s, Md_isSaved_s, Md_spare_s, Md_text_s, Md_typed_s, Md_hasPaid_s, Md_misses_s, Md_potNow_s, Md_read_s, Md_spot_s, Md_wrong_s, ole, ↓reduceIte]
  · have e1 : f_X5_requireRange (nI x) (0:Int32) (255:Int32) = some (.inl ((), ())) := rr_k (lo := 0) (hi := 255) (by omega) hx (by omega)
    have e2 : f_X6_in (nI x) (0:Int32) (255:Int32) = some ((1:Int32), ()) := in_k2 (lo := 0) (hi := 255) (by omega) hx (by omega)
    obtain ⟨sg, len, at0⟩ := tv
    obtain ⟨n, h1, rfl, hn, hs⟩ := id ht
    have h1 : len = nI n := h1
    subst h1
    by_cases h100 : n = 100
    · have l1 : ¬ n < 100 := by omega
      refine tw_mk (a := .inr (ISE, (sg, nI n, at0))) (b := ((0:Int32), (2, z, past, pm, sl, sv, sp, tx, nI n, hp, mi, pot, rd, spt, wr))) ?_ ?_ ⟨2, Or.inr ⟨rfl, rfl⟩, rfl, 2, tx, _, rfl, ht⟩
      · simp (disch := omega) only [f_X5_append, e1, bx_l, Tx_length, lt100, l1, ↓reduceIte]
      · simp (disch := omega) only [f_X6_append, e2, bd_s, lt_e, St_count, St_month, St_contribution, St_box, St_given, St_purse, St_guarantor, St_bid, St_away, St_taken, St_inside, St_paidForItself, St_paidForOthers, St_gotOfPot, St_shares, St_misses, St_debt, St_count_s, St_month_s, St_contribution_s, St_box_s, St_given_s, St_purse_s, St_guarantor_s, St_bid_s, St_away_s, St_taken_s, St_inside_s, St_paidForItself_s, St_paidForOthers_s, St_gotOfPot_s, St_shares_s, St_misses_s, St_debt_s, Rd_paid, Rd_missing, Rd_pence, Rd_paid_s, Rd_missing_s, Rd_pence_s, Md_thrown, Md_z, Md_past, Md_pastMany, Md_slots, Md_isSaved, Md_spare, Md_text, Md_typed, Md_hasPaid, Md_misses, Md_potNow, Md_read, Md_spot, Md_wrong, Md_thrown_s, Md_z_s, Md_past_s, Md_pastMany_s, Md_slots_s, Md_isSaved_s, Md_spare_s, Md_text_s, Md_typed_s, Md_hasPaid_s, Md_misses_s, Md_potNow_s, Md_read_s, Md_spot_s, Md_wrong_s, o_ne, eq100, h100, twle, ↓reduceIte]
    · have l1 : n < 100 := by omega
      refine tw_mk (a := .inl (nI (n + 1), (upd sg n (nI x), nI (n + 1), at0))) (b := (nI (n + 1), (0, z, past, pm, sl, sv, sp, upd tx n (nI x), nI (n + 1), hp, mi, pot, rd, spt, wr))) ?_ ?_ ⟨rfl, rfl, 0, _, _, rfl, n + 1, rfl, rfl, by omega, fun k hk => ?_⟩
      · simp (disch := omega) only [f_X5_append, f_X4_add, e1, bx_l, Tx_length, Tx_signs, Tx_signs_s, Tx_length_s, lt100, l1, gi_ok, nI_clamp, lt_e, nI_s1, bd_s, ↓reduceIte]
      · simp (disch := omega) only [f_X6_append, e2, bd_s, lt_e, St_count, St_month, St_contribution, St_box, St_given, St_purse, St_guarantor, St_bid, St_away, St_taken, St_inside, St_paidForItself, St_paidForOthers, St_gotOfPot, St_shares, St_misses, St_debt, St_count_s, St_month_s, St_contribution_s, St_box_s, St_given_s, St_purse_s, St_guarantor_s, St_bid_s, St_away_s, St_taken_s, St_inside_s, St_paidForItself_s, St_paidForOthers_s, St_gotOfPot_s, St_shares_s, St_misses_s, St_debt_s, Rd_paid, Rd_missing, Rd_pence, Rd_paid_s, Rd_missing_s, Rd_pence_s, Md_thrown, Md_z, Md_past, Md_pastMany, Md_slots, Md_isSaved, Md_spare, Md_text, Md_typed, Md_hasPaid, Md_misses, Md_potNow, Md_read, Md_spot, Md_wrong, Md_thrown_s, Md_z_s, Md_past_s, Md_pastMany_s, Md_slots_s, Md_isSaved_s, Md_spare_s, Md_text_s, Md_typed_s, Md_hasPaid_s, Md_misses_s, Md_potNow_s, Md_read_s, Md_spot_s, Md_wrong_s, o_ne, eq100, h100, zle, gi_ok, nI_clamp, nI_s1, ↓reduceIte]
      · have hk : k < n + 1 := hk
        by_cases e : k = n
        · subst e
          exact ⟨by show upd sg k (nI x) k = upd tx k (nI x) k; rw [upd_same, upd_same], x, hx, upd_same _ _ _⟩
        · have := hs k (by omega)
          show upd sg n (nI x) k = upd tx n (nI x) k ∧ ∃ a, a ≤ 255 ∧ upd tx n (nI x) k = nI a
          rw [upd_ne e, upd_ne e]; exact this
theorem do_clear {tv : TxV} (ht : Txt tv tx ty) : Two (f_X5_clearText tv) (f_X6_clearText (th, z, past, pm, sl, sv, sp, tx, ty, hp, mi, pot, rd, spt, wr)) (fun a q => a.1 = q.1 ∧ ∃ t ty', q.2 = (t, z, past, pm, sl, sv, sp, tx, ty', hp, mi, pot, rd, spt, wr) ∧ Txt a.2 tx ty') := by
  obtain ⟨sg, len, at0⟩ := tv
  obtain ⟨n, h1, rfl, hn, hs⟩ := id ht
  have h1 : len = nI n := h1
  subst h1
  refine tw_mk (a := (nI n, (sg, (0:Int32), at0))) (b := (nI n, (0, z, past, pm, sl, sv, sp, tx, 0, hp, mi, pot, rd, spt, wr))) ?_ ?_ ⟨rfl, 0, 0, rfl, 0, rfl, rfl, by omega, fun k hk => by omega⟩
  · simp only [f_X5_clearText, Tx_length, Tx_length_s, lt_e]
  · simp only [f_X6_clearText, St_count, St_month, St_contribution, St_box, St_given, St_purse, St_guarantor, St_bid, St_away, St_taken, St_inside, St_paidForItself, St_paidForOthers, St_gotOfPot, St_shares, St_misses, St_debt, St_count_s, St_month_s, St_contribution_s, St_box_s, St_given_s, St_purse_s, St_guarantor_s, St_bid_s, St_away_s, St_taken_s, St_inside_s, St_paidForItself_s, St_paidForOthers_s, St_gotOfPot_s, St_shares_s, St_misses_s, St_debt_s, Rd_paid, Rd_missing, Rd_pence, Rd_paid_s, Rd_missing_s, Rd_pence_s, Md_thrown, Md_z, Md_past, Md_pastMany, Md_slots, Md_isSaved, Md_spare, Md_text, Md_typed, Md_hasPaid, Md_misses, Md_potNow, Md_read, Md_spot, Md_wrong, Md_thrown_s, Md_z_s, Md_past_s, Md_pastMany_s, Md_slots_s, Md_isSaved_s, Md_spare_s, Md_text_s, Md_typed_s, Md_hasPaid_s, Md_misses_s, Md_potNow_s, Md_read_s, Md_spot_s, Md_wrong_s, lt_e]
theorem do_errorPosition {tv : TxV} (ht : Txt tv tx ty) (hz : Zr rd) (t0 : StV) : Two (f_X5_errorPosition t0 tv) (f_X6_errorPosition (th, z, past, pm, sl, sv, sp, tx, ty, hp, mi, pot, rd, spt, wr)) (fun a q => a.1 = q.1 ∧ ∃ t rd' s' w', q.2 = (t, z, past, pm, sl, sv, sp, tx, ty, hp, mi, pot, rd', s', w') ∧ Zr rd' ∧ Txt a.2.2 tx ty) := by
  obtain ⟨sg, len, at0⟩ := tv
  obtain ⟨n, h1, rfl, hs⟩ := id ht
  have h1 : len = nI n := h1
  subst h1
  obtain ⟨a, e, v', rd', s', w', r1, r2, hz', -⟩ := read_both hs hz at0 t0 (th := (0:Int32)) (z := z) (past := past) (pm := pm) (sl := sl) (sv := sv) (sp := sp) (hp := hp) (mi := mi) (pot := pot) (spt := spt) (wr := wr)
  refine tw_mk (a := (e, (v', (sg, nI n, a)))) (b := (e, (0, z, past, pm, sl, sv, sp, tx, nI n, hp, mi, pot, rd', s', w'))) ?_ ?_ ⟨rfl, 0, rd', s', w', rfl, hz', n, rfl, rfl, hs⟩
  · have r1 : f_X4_readInto (sg, nI n, at0) t0 = some (e, ((sg, nI n, a), v')) := r1
    simp only [f_X5_errorPosition, r1, bd_s]
  · simp only [f_X6_errorPosition, St_count, St_month, St_contribution, St_box, St_given, St_purse, St_guarantor, St_bid, St_away, St_taken, St_inside, St_paidForItself, St_paidForOthers, St_gotOfPot, St_shares, St_misses, St_debt, St_count_s, St_month_s, St_contribution_s, St_box_s, St_given_s, St_purse_s, St_guarantor_s, St_bid_s, St_away_s, St_taken_s, St_inside_s, St_paidForItself_s, St_paidForOthers_s, St_gotOfPot_s, St_shares_s, St_misses_s, St_debt_s, Rd_paid, Rd_missing, Rd_pence, Rd_paid_s, Rd_missing_s, Rd_pence_s, Md_thrown, Md_z, Md_past, Md_pastMany, Md_slots, Md_isSaved, Md_spare, Md_text, Md_typed, Md_hasPaid, Md_misses, Md_potNow, Md_read, Md_spot, Md_wrong, Md_thrown_s, Md_z_s, Md_past_s, Md_pastMany_s, Md_slots_s, Md_isSaved_s, Md_spare_s, Md_text_s, Md_typed_s, Md_hasPaid_s, Md_misses_s, Md_potNow_s, Md_read_s, Md_spot_s, Md_wrong_s, lt_e, r2, bd_s]
theorem fill {fu : Nat} (hf : 157 < fu) : One (lp b_X6_load_29 fu ((0:Int32), (th, z, past, pm, sl, sv, sp, tx, ty, hp, mi, pot, rd, spt, wr))) (fun e => ∃ z', e = (nI 157, (th, z', past, pm, sl, sv, sp, tx, ty, hp, mi, pot, rd, spt, wr)) ∧ (∀ k, k < 157 → z' k = rd k) ∧ ∀ k, 157 ≤ k → z' k = z k) := by
  refine lp_one (fun w s => ∃ i z', s = (nI i, (th, z', past, pm, sl, sv, sp, tx, ty, hp, mi, pot, rd, spt, wr)) ∧ i ≤ 157 ∧ w = 157 - i ∧ (∀ k, k < i → z' k = rd k) ∧ ∀ k, 157 ≤ k → z' k = z k) _ ?_ (n := 157) ⟨0, z, rfl, by omega, by omega, fun k h => by omega, fun k _ => rfl⟩ hf
  rintro w s ⟨i, z', rfl, h1, rfl, h2, h3⟩ J hJ
  by_cases h : i = 157
  · subst h
    simp (disch := omega) only [b_X6_load_29, St_count, St_month, St_contribution, St_box, St_given, St_purse, St_guarantor, St_bid, St_away, St_taken, St_inside, St_paidForItself, St_paidForOthers, St_gotOfPot, St_shares, St_misses, St_debt, St_count_s, St_month_s, St_contribution_s, St_box_s, St_given_s, St_purse_s, St_guarantor_s, St_bid_s, St_away_s, St_taken_s, St_inside_s, St_paidForItself_s, St_paidForOthers_s, St_gotOfPot_s, St_shares_s, St_misses_s, St_debt_s, Rd_paid, Rd_missing, Rd_pence, Rd_paid_s, Rd_missing_s, Rd_pence_s, Md_thrown, Md_z, Md_past, Md_pastMany, Md_slots, Md_isSaved, Md_spare, Md_text, Md_typed, Md_hasPaid, Md_misses, Md_potNow, Md_read, Md_spot, Md_wrong, Md_thrown_s, Md_z_s, Md_past_s, Md_pastMany_s, Md_slots_s, Md_isSaved_s, Md_spare_s, Md_text_s, Md_typed_s, Md_hasPaid_s, Md_misses_s, Md_potNow_s, Md_read_s, Md_spot_s, Md_wrong_s, mul8, mul8r, lt_e, bd_s, gi_ok, gz2, gz8, gz40, q_add, nI_s1, nI_clamp, upd_same, nar0, nar1, c0, c1, c2, c3, c4, g0_157, g1_157, g2_157, g3_157, g4_157, g0_1, a5, a13, a21, a29, a37, a45, a53, a61, a69, a77, a85, a93, le157, Nat.le_refl, ↓reduceIte]
    exact ⟨z', rfl, h2, h3⟩
  · have nc : ¬ 157 ≤ i := by omega
    simp (disch := omega) only [b_X6_load_29, St_count, St_month, St_contribution, St_box, St_given, St_purse, St_guarantor, St_bid, St_away, St_taken, St_inside, St_paidForItself, St_paidForOthers, St_gotOfPot, St_shares, St_misses, St_debt, St_count_s, St_month_s, St_contribution_s, St_box_s, St_given_s, St_purse_s, St_guarantor_s, St_bid_s, St_away_s, St_taken_s, St_inside_s, St_paidForItself_s, St_paidForOthers_s, St_gotOfPot_s, St_shares_s, St_misses_s, St_debt_s, Rd_paid, Rd_missing, Rd_pence, Rd_paid_s, Rd_missing_s, Rd_pence_s, Md_thrown, Md_z, Md_past, Md_pastMany, Md_slots, Md_isSaved, Md_spare, Md_text, Md_typed, Md_hasPaid, Md_misses, Md_potNow, Md_read, Md_spot, Md_wrong, Md_thrown_s, Md_z_s, Md_past_s, Md_pastMany_s, Md_slots_s, Md_isSaved_s, Md_spare_s, Md_text_s, Md_typed_s, Md_hasPaid_s, Md_misses_s, Md_potNow_s, Md_read_s, Md_spot_s, Md_wrong_s, mul8, mul8r, lt_e, bd_s, gi_ok, gz2, gz8, gz40, q_add, nI_s1, nI_clamp, upd_same, nar0, nar1, c0, c1, c2, c3, c4, g0_157, g1_157, g2_157, g3_157, g4_157, g0_1, a5, a13, a21, a29, a37, a45, a53, a61, a69, a77, a85, a93, le157, nc, ↓reduceIte]
    refine hJ _ _ (by omega) ⟨i + 1, _, rfl, by omega, rfl, fun q hq => ?_, fun q hq => ?_⟩
    · by_cases e : q = i
      · subst e; rw [upd_same]
      · rw [upd_ne e]; exact h2 q (by omega)
    · rw [upd_ne (by omega)]; exact h3 q hq
theorem unuse (v1 v2 : StV) (v5 : PaV) (v6 : TxV) (used : SlV) : lp (b_X5_load_46 v1 v2 v5 v6) FU ((0:Int32), used) = some (nI 2, upd (upd used 0 0) 1 0) := by
  have s0 : b_X5_load_46 v1 v2 v5 v6 (nI 0, used) = some (.inl (nI 1, upd used 0 0)) := by
    simp (disch := omega) only [b_X5_load_46, le2, show ¬ 2 ≤ 0 by omega, gi_ok, nI_clamp, Sl_used, Sl_used_s, nar0, lt_e, nI_s1, ↓reduceIte]
  have s1 : b_X5_load_46 v1 v2 v5 v6 (nI 1, upd used 0 0) = some (.inl (nI 2, upd (upd used 0 0) 1 0)) := by
    simp (disch := omega) only [b_X5_load_46, le2, show ¬ 2 ≤ 1 by omega, gi_ok, nI_clamp, Sl_used, Sl_used_s, nar0, lt_e, nI_s1, ↓reduceIte]
  have s2 : b_X5_load_46 v1 v2 v5 v6 (nI 2, upd (upd used 0 0) 1 0) = some (.inr (nI 2, upd (upd used 0 0) 1 0)) := by
    simp (disch := omega) only [b_X5_load_46, le2, Nat.le_refl, ↓reduceIte]
  exact lp_mono 3 FU _ _ (FU_le (by omega)) (lp_u s0 (lp_u s1 (lp_x (k := 0) s2)))
theorem do_load {tv : TxV} {used : Nat → Int32} {s0 s1 : StV} (ht : Txt tv tx ty) (hz : Zr rd) (hp9 : Pst pa past pm) (hs9 : Slt used s0 s1 sl sv) (hv : Now v z) (t0 : StV) : Two (f_X5_load v t0 pa tv used) (f_X6_load (th, z, past, pm, sl, sv, sp, tx, ty, hp, mi, pot, rd, spt, wr)) (Ans (fun s k => s = ISE ∧ k = 1) (fun (w : StV × StV × PaV × TxV × SlV) q => ∃ t z' pm' sv' rd' s' w', q = (t, z', past, pm', sl, sv', sp, tx, ty, hp, mi, pot, rd', s', w') ∧ Now w.1 z' ∧ Pst w.2.2.1 past pm' ∧ Txt w.2.2.2.1 tx ty ∧ Slt w.2.2.2.2 s0 s1 sl sv' ∧ Zr rd')) := by
  obtain ⟨sg, len, at0⟩ := tv
  obtain ⟨n, h1, rfl, hs⟩ := id ht
  have h1 : len = nI n := h1
  subst h1
  obtain ⟨a, e, v', rd', s', w', r1, r2, hz', hnow⟩ := read_both hs hz at0 t0 (th := th) (z := z) (past := past) (pm := pm) (sl := sl) (sv := sv) (sp := sp) (hp := hp) (mi := mi) (pot := pot) (spt := spt) (wr := wr)
  have ht' : Txt (sg, nI n, a) tx (nI n) := ⟨n, rfl, rfl, hs⟩
  by_cases he : e = (-99999:Int32)
  · obtain ⟨c, m, hm, g⟩ := hnow he
    obtain ⟨v1, cp, g1⟩ := g.copy v
    obtain ⟨cz, mz, -, g0⟩ := id hv
    obtain ⟨-, n1, -, -, -⟩ := g1.cnt
    obtain ⟨-, -, n2, -, -⟩ := g.cnt
    obtain ⟨e3, q1, z', rfl, b2, b3⟩ := lp_get (n := 157) (by omega) (fun fu hf => fill (fu := fu) hf (th := (0:Int32)) (z := z) (past := past) (pm := pm) (sl := sl) (sv := sv) (sp := sp) (tx := tx) (ty := nI n) (hp := hp) (mi := mi) (pot := pot) (rd := rd') (spt := s') (wr := w'))
    have hzz : z' = rd' := by
      funext k
      by_cases w : k < 157
      · exact b2 k w
      · rw [b3 k (by omega), g0.out k (by omega), hz' k (by omega)]
    subst hzz
    obtain ⟨n0, q0, -, hq0, -, hnx, -⟩ := id hp9
    obtain ⟨rfl, hu, -, -⟩ := hs9
    refine tw_mk (a := .inl (nI c, (v1, v', Pa_size_s pa (0:Int32), (sg, nI n, a), upd (upd sv 0 0) 1 0))) (b := (nI c, (0, z', past, 0, sl, upd (upd sv 0 0) 1 0, sp, tx, nI n, hp, mi, pot, z', s', w'))) ?_ ?_ ⟨rfl, rfl, 0, z', 0, _, z', s', w', rfl, ⟨c, m, hm, g1⟩, ⟨0, q0, by omega, hq0, rfl, hnx, rfl, fun k hk => by omega⟩, ht', ⟨rfl, fun j hj => ?_, fun h => ?_, fun h => ?_⟩, hz'⟩
    · have un := unuse v1 v' (Pa_size_s pa (0:Int32)) (sg, nI n, a) sv
      simp only [f_X5_load, r1, bd_s, he, cp, f_X0_forgetAll, lt_e, un, n1, ↓reduceIte]
    · have g1_2 : ∀ {B : Type} {k : Option B}, gi (1:Int32) 2 k = k := gi_ok (i := 1) (n := 2) (by omega) (by omega)
      have g0_2 : ∀ {B : Type} {k : Option B}, gi (0:Int32) 2 k = k := gi_ok (i := 0) (n := 2) (by omega) (by omega)
      rw [f_X6_load, r2]
      simp only [bd_s, he, lt_e, St_count, St_month, St_contribution, St_box, St_given, St_purse, St_guarantor, St_bid, St_away, St_taken, St_inside, St_paidForItself, St_paidForOthers, St_gotOfPot, St_shares, St_misses, St_debt, St_count_s, St_month_s, St_contribution_s, St_box_s, St_given_s, St_purse_s, St_guarantor_s, St_bid_s, St_away_s, St_taken_s, St_inside_s, St_paidForItself_s, St_paidForOthers_s, St_gotOfPot_s, St_shares_s, St_misses_s, St_debt_s, Rd_paid, Rd_missing, Rd_pence, Rd_paid_s, Rd_missing_s, Rd_pence_s, Md_thrown, Md_z, Md_past, Md_pastMany, Md_slots, Md_isSaved, Md_spare, Md_text, Md_typed, Md_hasPaid, Md_misses, Md_potNow, Md_read, Md_spot, Md_wrong, Md_thrown_s, Md_z_s, Md_past_s, Md_pastMany_s, Md_slots_s, Md_isSaved_s, Md_spare_s, Md_text_s, Md_typed_s, Md_hasPaid_s, Md_misses_s, Md_potNow_s, Md_read_s, Md_spot_s, Md_wrong_s, zle, q1, g0_2, g1_2, c0, c1, nar0, g0_157, n2, ↓reduceIte]
    · show upd (upd sv 0 0) 1 0 j = 0 ∨ upd (upd sv 0 0) 1 0 j = 1
      by_cases e : j = 1
      · subst e; exact Or.inl (upd_same _ _ _)
      · have e0 : j = 0 := by omega
        subst e0
        exact Or.inl (by rw [upd_ne (by omega), upd_same])
    · have h : upd (upd sv 0 0) 1 0 0 = (1:Int32) := h
      rw [upd_ne (by omega), upd_same] at h
      exact absurd h (by decide)
    · have h : upd (upd sv 0 0) 1 0 1 = (1:Int32) := h
      rw [upd_same] at h
      exact absurd h (by decide)
  · refine tw_mk (a := .inr (ISE, (v, v', pa, (sg, nI n, a), used))) (b := ((0:Int32), (1, z, past, pm, sl, sv, sp, tx, nI n, hp, mi, pot, rd', s', w'))) ?_ ?_ ⟨1, ⟨rfl, rfl⟩, rfl, 1, z, pm, sv, rd', s', w', rfl, hv, hp9, ht', hs9, hz'⟩
    · simp only [f_X5_load, r1, bd_s, he, ↓reduceIte]
    · rw [f_X6_load, r2]
      simp only [bd_s, he, lt_e, St_count, St_month, St_contribution, St_box, St_given, St_purse, St_guarantor, St_bid, St_away, St_taken, St_inside, St_paidForItself, St_paidForOthers, St_gotOfPot, St_shares, St_misses, St_debt, St_count_s, St_month_s, St_contribution_s, St_box_s, St_given_s, St_purse_s, St_guarantor_s, St_bid_s, St_away_s, St_taken_s, St_inside_s, St_paidForItself_s, St_paidForOthers_s, St_gotOfPot_s, St_shares_s, St_misses_s, St_debt_s, Rd_paid, Rd_missing, Rd_pence, Rd_paid_s, Rd_missing_s, Rd_pence_s, Md_thrown, Md_z, Md_past, Md_pastMany, Md_slots, Md_isSaved, Md_spare, Md_text, Md_typed, Md_hasPaid, Md_misses, Md_potNow, Md_read, Md_spot, Md_wrong, Md_thrown_s, Md_z_s, Md_past_s, Md_pastMany_s, Md_slots_s, Md_isSaved_s, Md_spare_s, Md_text_s, Md_typed_s, Md_hasPaid_s, Md_misses_s, Md_potNow_s, Md_read_s, Md_spot_s, Md_wrong_s, ole, ↓reduceIte]
end CALLS
