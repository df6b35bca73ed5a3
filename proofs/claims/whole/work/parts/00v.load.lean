/-! the text: the contribution, a whole text, append, clearText, errorPosition, load -/
theorem row0 {o k : Nat} {f : Nat → Int32} : row 0 o f k = 0 := if_neg (by omega)
theorem E_empty {co : Int32} {pu gu bi aw ta ins pf po go sh ms de : Nat → Int32} (hd : ∀ k, k < 64 → de k = 0) : E 0 0 co 0 0 pu gu bi aw ta ins pf po go sh ms de = upd (fun _ => (0:Int32)) 1 co := by
  funext k
  have h1 : (if k < 157 then de (k - 93) else 0) = 0 ∨ k < 93 := by
    by_cases q : k < 93
    · exact Or.inr q
    · refine Or.inl ?_
      split
      · exact hd _ (by omega)
      · rfl
  unfold E upd
  simp only [row0]
  by_cases k1 : k = 1
  · subst k1; rfl
  · rw [if_neg k1]
    by_cases k0 : k = 0
    · rw [if_pos k0, if_neg k1]; rfl
    · rw [if_neg k0, if_neg k1]
      rcases h1 with h1 | h1
      · rw [h1]; simp only [ite_self]
      · have : (if k < 93 then (0:Int32) else if k < 157 then de (k - 93) else 0) = 0 := if_pos h1
        rw [this]; simp only [ite_self]
theorem empty_lo {fu : Nat} (hf : 64 < fu) {pu gu bi aw ta ins pf po go sh ms de : Nat → Int32} {q : Int32} : One (lp b_X3_becomeEmpty_27 fu ((0:Int32), ((0:Int32), (0:Int32), q, (0:Int32), (0:Int32), pu, gu, bi, aw, ta, ins, pf, po, go, sh, ms, de))) (fun e => ∃ de', e = (nI 64, ((0:Int32), (0:Int32), q, (0:Int32), (0:Int32), pu, gu, bi, aw, ta, ins, pf, po, go, sh, ms, de')) ∧ ∀ k, k < 64 → de' k = 0) := by
  refine lp_one (fun w s => ∃ i de', s = (nI i, ((0:Int32), (0:Int32), q, (0:Int32), (0:Int32), pu, gu, bi, aw, ta, ins, pf, po, go, sh, ms, de')) ∧ i ≤ 64 ∧ w = 64 - i ∧ ∀ k, k < i → de' k = 0) _ ?_ (n := 64) ⟨0, de, rfl, by omega, by omega, fun k h => by omega⟩ hf
  rintro w s ⟨i, de', rfl, q1, rfl, q2⟩ J hJ
  by_cases h : i = 64
  · subst h
    simp (disch := omega) only [b_X3_becomeEmpty_27, St_count, St_month, St_contribution, St_box, St_given, St_purse, St_guarantor, St_bid, St_away, St_taken, St_inside, St_paidForItself, St_paidForOthers, St_gotOfPot, St_shares, St_misses, St_debt, St_count_s, St_month_s, St_contribution_s, St_box_s, St_given_s, St_purse_s, St_guarantor_s, St_bid_s, St_away_s, St_taken_s, St_inside_s, St_paidForItself_s, St_paidForOthers_s, St_gotOfPot_s, St_shares_s, St_misses_s, St_debt_s, Rd_paid, Rd_missing, Rd_pence, Rd_paid_s, Rd_missing_s, Rd_pence_s, Md_thrown, Md_z, Md_past, Md_pastMany, Md_slots, Md_isSaved, Md_spare, Md_text, Md_typed, Md_hasPaid, Md_misses, Md_potNow, Md_read, Md_spot, Md_wrong, Md_thrown_s, Md_z_s, Md_past_s, Md_pastMany_s, Md_slots_s, Md_isSaved_s, Md_spare_s, Md_text_s, Md_typed_s, Md_hasPaid_s, Md_misses_s, Md_potNow_s, Md_read_s, Md_spot_s, Md_wrong_s, mul8, mul8r, lt_e, bd_s, gi_ok, gz2, gz8, gz40, q_add, nI_s1, nI_clamp, upd_same, nar0, nar1, c0, c1, c2, c3, c4, g0_157, g1_157, g2_157, g3_157, g4_157, g0_1, a5, a13, a21, a29, a37, a45, a53, a61, a69, a77, a85, a93, le64, Nat.le_refl, ↓reduceIte]
    exact ⟨de', rfl, q2⟩
  · have nc : ¬ 64 ≤ i := by omega
    simp (disch := omega) only [b_X3_becomeEmpty_27, St_count, St_month, St_contribution, St_box, St_given, St_purse, St_guarantor, St_bid, St_away, St_taken, St_inside, St_paidForItself, St_paidForOthers, St_gotOfPot, St_shares, St_misses, St_debt, St_count_s, St_month_s, St_contribution_s, St_box_s, St_given_s, St_purse_s, St_guarantor_s, St_bid_s, St_away_s, St_taken_s, St_inside_s, St_paidForItself_s, St_paidForOthers_s, St_gotOfPot_s, St_shares_s, St_misses_s, St_debt_s, Rd_paid, Rd_missing, Rd_pence, Rd_paid_s, Rd_missing_s, Rd_pence_s, Md_thrown, Md_z, Md_past, Md_pastMany, Md_slots, Md_isSaved, Md_spare, Md_text, Md_typed, Md_hasPaid, Md_misses, Md_potNow, Md_read, Md_spot, Md_wrong, Md_thrown_s, Md_z_s, Md_past_s, Md_pastMany_s, Md_slots_s, Md_isSaved_s, Md_spare_s, Md_text_s, Md_typed_s, Md_hasPaid_s, Md_misses_s, Md_potNow_s, Md_read_s, Md_spot_s, Md_wrong_s, mul8, mul8r, lt_e, bd_s, gi_ok, gz2, gz8, gz40, q_add, nI_s1, nI_clamp, upd_same, nar0, nar1, c0, c1, c2, c3, c4, g0_157, g1_157, g2_157, g3_157, g4_157, g0_1, a5, a13, a21, a29, a37, a45, a53, a61, a69, a77, a85, a93, le64, nc, ↓reduceIte]
    refine hJ _ _ (by omega) ⟨i + 1, _, rfl, by omega, rfl, fun j hj => ?_⟩
    by_cases e : j = i
    · subst e; rw [upd_same]
    · rw [upd_ne e]; exact q2 j (by omega)
theorem empty_x (v0 : StV) {q : Nat} (h1 : 1 ≤ q) (h2 : q ≤ 50) : ∃ v', f_X3_becomeEmpty v0 (nI q) = some ((), v') ∧ Gs 0 0 v' (upd (fun _ => (0:Int32)) 1 (nI q)) := by
  obtain ⟨cc, mo, co, bo, gv, pu, gu, bi, aw, ta, ins, pf, po, go, sh, ms, de⟩ := v0
  obtain ⟨e, e1, de', rfl, e2⟩ := lp_get (n := 64) (by omega) (fun fu hf => empty_lo (fu := fu) hf (pu := pu) (gu := gu) (bi := bi) (aw := aw) (ta := ta) (ins := ins) (pf := pf) (po := po) (go := go) (sh := sh) (ms := ms) (de := de) (q := nI q))
  refine ⟨(nI 0, 0, nI q, 0, 0, pu, gu, bi, aw, ta, ins, pf, po, go, sh, ms, de'), ?_, ?_⟩
  · simp only [f_X3_becomeEmpty, St_count, St_month, St_contribution, St_box, St_given, St_purse, St_guarantor, St_bid, St_away, St_taken, St_inside, St_paidForItself, St_paidForOthers, St_gotOfPot, St_shares, St_misses, St_debt, St_count_s, St_month_s, St_contribution_s, St_box_s, St_given_s, St_purse_s, St_guarantor_s, St_bid_s, St_away_s, St_taken_s, St_inside_s, St_paidForItself_s, St_paidForOthers_s, St_gotOfPot_s, St_shares_s, St_misses_s, St_debt_s, Rd_paid, Rd_missing, Rd_pence, Rd_paid_s, Rd_missing_s, Rd_pence_s, Md_thrown, Md_z, Md_past, Md_pastMany, Md_slots, Md_isSaved, Md_spare, Md_text, Md_typed, Md_hasPaid, Md_misses, Md_potNow, Md_read, Md_spot, Md_wrong, Md_thrown_s, Md_z_s, Md_past_s, Md_pastMany_s, Md_slots_s, Md_isSaved_s, Md_spare_s, Md_text_s, Md_typed_s, Md_hasPaid_s, Md_misses_s, Md_potNow_s, Md_read_s, Md_spot_s, Md_wrong_s, lt_e, e1, bd_s]
    rfl
  · rw [← E_empty e2 (pu := pu) (gu := gu) (bi := bi) (aw := aw) (ta := ta) (ins := ins) (pf := pf) (po := po) (go := go) (sh := sh) (ms := ms)]
    refine ⟨0, nI q, 0, 0, pu, gu, bi, aw, ta, ins, pf, po, go, sh, ms, de', rfl, rfl, by omega, rfl, ⟨q, h1, h2, rfl⟩, ?_⟩
    exact ⟨fun i hi => by omega, fun i hi => by omega, fun i hi => by omega, fun i hi => by omega, fun i hi => by omega, fun i hi => by omega, fun i hi => by omega, fun i hi => by omega, fun i hi => by omega⟩
theorem Zr_0 : Zr (fun _ => (0:Int32)) := fun _ _ => rfl
section LOAD
variable {th : Int32} {z past : Nat → Int32} {pm : Int32} {sl sv sp tx : Nat → Int32} {ty : Int32} {hp mi : Nat → Int32} {pot : Int32} {rd : Nat → Int32} {spt wr : Int32}
variable {n : Nat} {sg : Nat → Int32}
theorem contr (h : Sg n sg tx) (v0 : StV) : (∃ q v', 1 ≤ q ∧ q ≤ 50 ∧ 3 ≤ n ∧ Gs 0 0 v' (upd (fun _ => (0:Int32)) 1 (nI q)) ∧ f_X4_readContribution (sg, nI n, (0:Int32)) v0 = some ((1:Int32), ((sg, nI n, nI 3), v')) ∧ f_X6_readContribution (th, z, past, pm, sl, sv, sp, tx, nI n, hp, mi, pot, (fun _ => (0:Int32)), spt, -99999) = some ((), (th, z, past, pm, sl, sv, sp, tx, nI n, hp, mi, pot, upd (fun _ => (0:Int32)) 1 (nI q), nI 3, -99999))) ∨ (∃ e v' rd' s', e ≤ n ∧ Zr rd' ∧ f_X4_readContribution (sg, nI n, (0:Int32)) v0 = some ((0:Int32), ((sg, nI n, nI e), v')) ∧ f_X6_readContribution (th, z, past, pm, sl, sv, sp, tx, nI n, hp, mi, pot, (fun _ => (0:Int32)), spt, -99999) = some ((), (th, z, past, pm, sl, sv, sp, tx, nI n, hp, mi, pot, rd', s', nI e))) := by
  have h1 := h.1
  have i0 : (0:Int32) = nI 0 := rfl
  have m10 : ∀ k, (10:Int32) * nI k = nI (10 * k) := fun k => q_mul 10 k
  have e0n : ((0:Int32) = -99999) = False := by simp
  have mz : ∀ x : Int32, (10:Int32) * 0 + 0 = 0 := fun _ => by decide
  by_cases hn : n = 0
  · subst hn
    have s2 : f_X6_letter (th, z, past, pm, sl, sv, sp, tx, nI 0, hp, mi, pot, (fun _ => (0:Int32)), spt, -99999) (0:Int32) = some (-1, ()) := letter_out (p := 0) (by omega) (by omega) (by omega)
    have nc : ((-1:Int32) = 67) = False := by simp
    refine Or.inr ⟨0, v0, upd (fun _ => (0:Int32)) 1 ((10:Int32) * 0 + 0), 1, by omega, Zr_upd Zr_0 (by omega), ?_, ?_⟩
    · have l0 : nI 0 ≤ (0:Int32) := by decide
      simp only [f_X4_readContribution, Tx_length, Tx_at, l0, ↓reduceIte]
      rfl
    · simp only [f_X6_readContribution, s2, bd_s, nc, lt_e, St_count, St_month, St_contribution, St_box, St_given, St_purse, St_guarantor, St_bid, St_away, St_taken, St_inside, St_paidForItself, St_paidForOthers, St_gotOfPot, St_shares, St_misses, St_debt, St_count_s, St_month_s, St_contribution_s, St_box_s, St_given_s, St_purse_s, St_guarantor_s, St_bid_s, St_away_s, St_taken_s, St_inside_s, St_paidForItself_s, St_paidForOthers_s, St_gotOfPot_s, St_shares_s, St_misses_s, St_debt_s, Rd_paid, Rd_missing, Rd_pence, Rd_paid_s, Rd_missing_s, Rd_pence_s, Md_thrown, Md_z, Md_past, Md_pastMany, Md_slots, Md_isSaved, Md_spare, Md_text, Md_typed, Md_hasPaid, Md_misses, Md_potNow, Md_read, Md_spot, Md_wrong, Md_thrown_s, Md_z_s, Md_past_s, Md_pastMany_s, Md_slots_s, Md_isSaved_s, Md_spare_s, Md_text_s, Md_typed_s, Md_hasPaid_s, Md_misses_s, Md_potNow_s, Md_read_s, Md_spot_s, Md_wrong_s, e0n, g1_157, c1, ↓reduceIte]
      rfl
  · obtain ⟨a, ha, s1, s2⟩ := letter_at h (show 0 < n by omega)
    have s2 : f_X6_letter (th, z, past, pm, sl, sv, sp, tx, nI n, hp, mi, pot, (fun _ => (0:Int32)), spt, -99999) (0:Int32) = some (nI a, ()) := s2 th z past pm sl sv sp hp mi pot (fun _ => (0:Int32)) spt (-99999:Int32)
    have np : ¬ nI n ≤ (0:Int32) := nI_nle (by omega) (by omega)
    have g0 : ∀ {B : Type} {k : Option B}, gi (0:Int32) 100 k = k := gi_ok (i := 0) (n := 100) (by omega) (by omega)
    by_cases a1 : a = 67
    · subst a1
      have e67 : nI 67 = (67:Int32) := rfl
      have z1 : (0:Int32) + (1:Int32) = nI 1 := rfl
      rcases digit h (show 1 ≤ n by omega) (lo := 0) (hi := 5) (by omega) (by omega) (th := th) (z := z) (past := past) (pm := pm) (sl := sl) (sv := sv) (sp := sp) (hp := hp) (mi := mi) (pot := pot) (rd := (fun _ => (0:Int32))) with ⟨d, -, d2, d3, d4, d5⟩ | ⟨d4, x, d5⟩
      · have d4 : f_X4_readDigit (sg, nI n, nI 1) (0:Int32) (5:Int32) (-99999:Int32) = some (nI d, (sg, nI n, nI 2)) := by
          have w := d4 (-99999:Int32)
          rw [if_neg (fun q => (nI_neg (by omega)).mp q)] at w
          exact w
        have d5 : f_X6_takes (th, z, past, pm, sl, sv, sp, tx, nI n, hp, mi, pot, (fun _ => (0:Int32)), 1, -99999) (0:Int32) (5:Int32) = some (nI d, (th, z, past, pm, sl, sv, sp, tx, nI n, hp, mi, pot, (fun _ => (0:Int32)), nI 2, -99999)) := d5
        -- the second digit, from lo to hi
        have fin : ∀ lo hi : Nat, lo ≤ 9 → hi ≤ 9 → (∀ f, lo ≤ f → f ≤ hi → 1 ≤ 10 * d + f ∧ 10 * d + f ≤ 50) → (∀ (o1 : Option (Int32 × (TxV × StV))), f_X4_readContribution (sg, nI n, (0:Int32)) v0 = bd (f_X4_readDigit (sg, nI n, nI 2) (nI lo) (nI hi) (-99999:Int32)) (fun (q9 : Int32 × (TxV)) => (if q9.1 = (-99999:Int32) then some ((0:Int32), (q9.2, v0)) else bd (f_X3_becomeEmpty v0 (((10:Int32) * nI d) + q9.1)) (fun (q11 : Unit × (StV)) => some ((1:Int32), (q9.2, q11.2)))))) → (∀ (o1 : Option (Int32 × (TxV × StV))), f_X6_readContribution (th, z, past, pm, sl, sv, sp, tx, nI n, hp, mi, pot, (fun _ => (0:Int32)), spt, -99999) = bd (f_X6_takes (th, z, past, pm, sl, sv, sp, tx, nI n, hp, mi, pot, (fun _ => (0:Int32)), nI 2, -99999) (nI lo) (nI hi)) (fun (q29 : Int32 × (MdV)) => gi (1:Int32) 157 (lt (Md_read_s q29.2 (upd (Md_read q29.2) (1:Int32).toNatClampNeg (((10:Int32) * nI d) + q29.1))) (fun (u31 : MdV) => some ((), u31))))) → ((∃ q v', 1 ≤ q ∧ q ≤ 50 ∧ 3 ≤ n ∧ Gs 0 0 v' (upd (fun _ => (0:Int32)) 1 (nI q)) ∧ f_X4_readContribution (sg, nI n, (0:Int32)) v0 = some ((1:Int32), ((sg, nI n, nI 3), v')) ∧ f_X6_readContribution (th, z, past, pm, sl, sv, sp, tx, nI n, hp, mi, pot, (fun _ => (0:Int32)), spt, -99999) = some ((), (th, z, past, pm, sl, sv, sp, tx, nI n, hp, mi, pot, upd (fun _ => (0:Int32)) 1 (nI q), nI 3, -99999))) ∨ (∃ e v' rd' s', e ≤ n ∧ Zr rd' ∧ f_X4_readContribution (sg, nI n, (0:Int32)) v0 = some ((0:Int32), ((sg, nI n, nI e), v')) ∧ f_X6_readContribution (th, z, past, pm, sl, sv, sp, tx, nI n, hp, mi, pot, (fun _ => (0:Int32)), spt, -99999) = some ((), (th, z, past, pm, sl, sv, sp, tx, nI n, hp, mi, pot, rd', s', nI e)))) := by
          intro lo hi hlo hhi hr cx cm
          rw [cx none, cm none]
          rcases digit h (show 2 ≤ n by omega) (lo := lo) (hi := hi) hlo hhi (th := th) (z := z) (past := past) (pm := pm) (sl := sl) (sv := sv) (sp := sp) (hp := hp) (mi := mi) (pot := pot) (rd := (fun _ => (0:Int32))) with ⟨f, f1, f2, f3, f4, f5⟩ | ⟨f4, x, f5⟩
          · have w := f4 (-99999:Int32)
            rw [if_neg (fun q => (nI_neg (by omega)).mp q)] at w
            obtain ⟨r1, r2⟩ := hr f f1 f2
            obtain ⟨v', b1, b2⟩ := empty_x v0 r1 r2
            refine Or.inl ⟨10 * d + f, v', r1, r2, by omega, b2, ?_, ?_⟩
            · simp (disch := omega) only [w, bd_s, nI_neg, m10, q_add, b1, ↓reduceIte]
            · simp (disch := omega) only [f5, bd_s, St_count, St_month, St_contribution, St_box, St_given, St_purse, St_guarantor, St_bid, St_away, St_taken, St_inside, St_paidForItself, St_paidForOthers, St_gotOfPot, St_shares, St_misses, St_debt, St_count_s, St_month_s, St_contribution_s, St_box_s, St_given_s, St_purse_s, St_guarantor_s, St_bid_s, St_away_s, St_taken_s, St_inside_s, St_paidForItself_s, St_paidForOthers_s, St_gotOfPot_s, St_shares_s, St_misses_s, St_debt_s, Rd_paid, Rd_missing, Rd_pence, Rd_paid_s, Rd_missing_s, Rd_pence_s, Md_thrown, Md_z, Md_past, Md_pastMany, Md_slots, Md_isSaved, Md_spare, Md_text, Md_typed, Md_hasPaid, Md_misses, Md_potNow, Md_read, Md_spot, Md_wrong, Md_thrown_s, Md_z_s, Md_past_s, Md_pastMany_s, Md_slots_s, Md_isSaved_s, Md_spare_s, Md_text_s, Md_typed_s, Md_hasPaid_s, Md_misses_s, Md_potNow_s, Md_read_s, Md_spot_s, Md_wrong_s, lt_e, m10, q_add, g1_157, c1]
          · refine Or.inr ⟨2, v0, upd (fun _ => (0:Int32)) 1 (((10:Int32) * nI d) + x), nI 3, by omega, Zr_upd Zr_0 (by omega), ?_, ?_⟩
            · simp only [f4, bd_s, ↓reduceIte]
            · simp only [f5, bd_s, St_count, St_month, St_contribution, St_box, St_given, St_purse, St_guarantor, St_bid, St_away, St_taken, St_inside, St_paidForItself, St_paidForOthers, St_gotOfPot, St_shares, St_misses, St_debt, St_count_s, St_month_s, St_contribution_s, St_box_s, St_given_s, St_purse_s, St_guarantor_s, St_bid_s, St_away_s, St_taken_s, St_inside_s, St_paidForItself_s, St_paidForOthers_s, St_gotOfPot_s, St_shares_s, St_misses_s, St_debt_s, Rd_paid, Rd_missing, Rd_pence, Rd_paid_s, Rd_missing_s, Rd_pence_s, Md_thrown, Md_z, Md_past, Md_pastMany, Md_slots, Md_isSaved, Md_spare, Md_text, Md_typed, Md_hasPaid, Md_misses, Md_potNow, Md_read, Md_spot, Md_wrong, Md_thrown_s, Md_z_s, Md_past_s, Md_pastMany_s, Md_slots_s, Md_isSaved_s, Md_spare_s, Md_text_s, Md_typed_s, Md_hasPaid_s, Md_misses_s, Md_potNow_s, Md_read_s, Md_spot_s, Md_wrong_s, lt_e, g1_157, c1]
        by_cases q0 : d = 0
        · subst q0
          have z0 : nI 0 = (0:Int32) := rfl
          refine fin 1 9 (by omega) (by omega) (fun f _ _ => by omega) (fun _ => ?_) (fun _ => ?_)
          · simp (decide := true) (disch := omega) only [f_X4_readContribution, Tx_length, Tx_at, Tx_signs, Tx_at_s, np, g0, c0, s1, e67, z1, lt_e, d4, bd_s, z0, ↓reduceIte]
            rfl
          · simp (decide := true) (disch := omega) only [f_X6_readContribution, s2, bd_s, e67, lt_e, St_count, St_month, St_contribution, St_box, St_given, St_purse, St_guarantor, St_bid, St_away, St_taken, St_inside, St_paidForItself, St_paidForOthers, St_gotOfPot, St_shares, St_misses, St_debt, St_count_s, St_month_s, St_contribution_s, St_box_s, St_given_s, St_purse_s, St_guarantor_s, St_bid_s, St_away_s, St_taken_s, St_inside_s, St_paidForItself_s, St_paidForOthers_s, St_gotOfPot_s, St_shares_s, St_misses_s, St_debt_s, Rd_paid, Rd_missing, Rd_pence, Rd_paid_s, Rd_missing_s, Rd_pence_s, Md_thrown, Md_z, Md_past, Md_pastMany, Md_slots, Md_isSaved, Md_spare, Md_text, Md_typed, Md_hasPaid, Md_misses, Md_potNow, Md_read, Md_spot, Md_wrong, Md_thrown_s, Md_z_s, Md_past_s, Md_pastMany_s, Md_slots_s, Md_isSaved_s, Md_spare_s, Md_text_s, Md_typed_s, Md_hasPaid_s, Md_misses_s, Md_potNow_s, Md_read_s, Md_spot_s, Md_wrong_s, d5, z0, ↓reduceIte]
            rfl
        · have n0 : ¬ nI d = (0:Int32) := fun q => q0 ((eq0 (by omega)).mp q)
          have nn : ¬ nI d = (-99999:Int32) := fun q => (nI_neg (by omega)).mp q
          by_cases q5 : d = 5
          · subst q5
            have z5 : nI 5 = (5:Int32) := rfl
            refine fin 0 0 (by omega) (by omega) (fun f _ _ => by omega) (fun _ => ?_) (fun _ => ?_)
            · simp (decide := true) (disch := omega) only [f_X4_readContribution, Tx_length, Tx_at, Tx_signs, Tx_at_s, np, g0, c0, s1, e67, z1, lt_e, d4, bd_s, z5, ↓reduceIte]
              rfl
            · simp (decide := true) (disch := omega) only [f_X6_readContribution, s2, bd_s, e67, lt_e, St_count, St_month, St_contribution, St_box, St_given, St_purse, St_guarantor, St_bid, St_away, St_taken, St_inside, St_paidForItself, St_paidForOthers, St_gotOfPot, St_shares, St_misses, St_debt, St_count_s, St_month_s, St_contribution_s, St_box_s, St_given_s, St_purse_s, St_guarantor_s, St_bid_s, St_away_s, St_taken_s, St_inside_s, St_paidForItself_s, St_paidForOthers_s, St_gotOfPot_s, St_shares_s, St_misses_s, St_debt_s, Rd_paid, Rd_missing, Rd_pence, Rd_paid_s, Rd_missing_s, Rd_pence_s, Md_thrown, Md_z, Md_past, Md_pastMany, Md_slots, Md_isSaved, Md_spare, Md_text, Md_typed, Md_hasPaid, Md_misses, Md_potNow, Md_read, Md_spot, Md_wrong, Md_thrown_s, Md_z_s, Md_past_s, Md_pastMany_s, Md_slots_s, Md_isSaved_s, Md_spare_s, Md_text_s, Md_typed_s, Md_hasPaid_s, Md_misses_s, Md_potNow_s, Md_read_s, Md_spot_s, Md_wrong_s, d5, z5, ↓reduceIte]
              rfl
          · have n5 : ¬ nI d = (5:Int32) := fun q => q5 ((eq5 (by omega)).mp q)
            refine fin 0 9 (by omega) (by omega) (fun f _ _ => by omega) (fun _ => ?_) (fun _ => ?_)
            · simp (disch := omega) only [f_X4_readContribution, Tx_length, Tx_at, Tx_signs, Tx_at_s, np, g0, c0, s1, e67, z1, lt_e, d4, bd_s, n0, nn, n5, ↓reduceIte]
              rfl
            · simp (disch := omega) only [f_X6_readContribution, s2, bd_s, e67, lt_e, St_count, St_month, St_contribution, St_box, St_given, St_purse, St_guarantor, St_bid, St_away, St_taken, St_inside, St_paidForItself, St_paidForOthers, St_gotOfPot, St_shares, St_misses, St_debt, St_count_s, St_month_s, St_contribution_s, St_box_s, St_given_s, St_purse_s, St_guarantor_s, St_bid_s, St_away_s, St_taken_s, St_inside_s, St_paidForItself_s, St_paidForOthers_s, St_gotOfPot_s, St_shares_s, St_misses_s, St_debt_s, Rd_paid, Rd_missing, Rd_pence, Rd_paid_s, Rd_missing_s, Rd_pence_s, Md_thrown, Md_z, Md_past, Md_pastMany, Md_slots, Md_isSaved, Md_spare, Md_text, Md_typed, Md_hasPaid, Md_misses, Md_potNow, Md_read, Md_spot, Md_wrong, Md_thrown_s, Md_z_s, Md_past_s, Md_pastMany_s, Md_slots_s, Md_isSaved_s, Md_spare_s, Md_text_s, Md_typed_s, Md_hasPaid_s, Md_misses_s, Md_potNow_s, Md_read_s, Md_spot_s, Md_wrong_s, d5, n0, n5, ↓reduceIte]
              rfl
      · have d4 : f_X4_readDigit (sg, nI n, nI 1) (0:Int32) (5:Int32) (-99999:Int32) = some ((-99999:Int32), (sg, nI n, nI 1)) := d4 _
        have d5 : f_X6_takes (th, z, past, pm, sl, sv, sp, tx, nI n, hp, mi, pot, (fun _ => (0:Int32)), 1, -99999) (0:Int32) (5:Int32) = some (x, (th, z, past, pm, sl, sv, sp, tx, nI n, hp, mi, pot, (fun _ => (0:Int32)), nI 2, nI 1)) := d5
        refine Or.inr ⟨1, v0, upd (fun _ => (0:Int32)) 1 ((10:Int32) * x + 0), nI 2, by omega, Zr_upd Zr_0 (by omega), ?_, ?_⟩
        · simp (disch := omega) only [f_X4_readContribution, Tx_length, Tx_at, Tx_signs, Tx_at_s, np, g0, c0, s1, e67, z1, lt_e, d4, bd_s, ↓reduceIte]
        · simp (disch := omega) only [f_X6_readContribution, s2, bd_s, e67, lt_e, St_count, St_month, St_contribution, St_box, St_given, St_purse, St_guarantor, St_bid, St_away, St_taken, St_inside, St_paidForItself, St_paidForOthers, St_gotOfPot, St_shares, St_misses, St_debt, St_count_s, St_month_s, St_contribution_s, St_box_s, St_given_s, St_purse_s, St_guarantor_s, St_bid_s, St_away_s, St_taken_s, St_inside_s, St_paidForItself_s, St_paidForOthers_s, St_gotOfPot_s, St_shares_s, St_misses_s, St_debt_s, Rd_paid, Rd_missing, Rd_pence, Rd_paid_s, Rd_missing_s, Rd_pence_s, Md_thrown, Md_z, Md_past, Md_pastMany, Md_slots, Md_isSaved, Md_spare, Md_text, Md_typed, Md_hasPaid, Md_misses, Md_potNow, Md_read, Md_spot, Md_wrong, Md_thrown_s, Md_z_s, Md_past_s, Md_pastMany_s, Md_slots_s, Md_isSaved_s, Md_spare_s, Md_text_s, Md_typed_s, Md_hasPaid_s, Md_misses_s, Md_potNow_s, Md_read_s, Md_spot_s, Md_wrong_s, d5, nI_neg, g1_157, c1, ↓reduceIte]
    · have x1 : ¬ nI a = (67:Int32) := fun q => a1 ((nI_inj (b := 67) (by omega) (by omega)).mp q)
      refine Or.inr ⟨0, v0, upd (fun _ => (0:Int32)) 1 ((10:Int32) * 0 + 0), 1, by omega, Zr_upd Zr_0 (by omega), ?_, ?_⟩
      · simp (disch := omega) only [f_X4_readContribution, Tx_length, Tx_at, Tx_signs, Tx_at_s, np, g0, c0, s1, x1, ↓reduceIte]
        rfl
      · simp only [f_X6_readContribution, s2, bd_s, x1, lt_e, St_count, St_month, St_contribution, St_box, St_given, St_purse, St_guarantor, St_bid, St_away, St_taken, St_inside, St_paidForItself, St_paidForOthers, St_gotOfPot, St_shares, St_misses, St_debt, St_count_s, St_month_s, St_contribution_s, St_box_s, St_given_s, St_purse_s, St_guarantor_s, St_bid_s, St_away_s, St_taken_s, St_inside_s, St_paidForItself_s, St_paidForOthers_s, St_gotOfPot_s, St_shares_s, St_misses_s, St_debt_s, Rd_paid, Rd_missing, Rd_pence, Rd_paid_s, Rd_missing_s, Rd_pence_s, Md_thrown, Md_z, Md_past, Md_pastMany, Md_slots, Md_isSaved, Md_spare, Md_text, Md_typed, Md_hasPaid, Md_misses, Md_potNow, Md_read, Md_spot, Md_wrong, Md_thrown_s, Md_z_s, Md_past_s, Md_pastMany_s, Md_slots_s, Md_isSaved_s, Md_spare_s, Md_text_s, Md_typed_s, Md_hasPaid_s, Md_misses_s, Md_potNow_s, Md_read_s, Md_spot_s, Md_wrong_s, e0n, g1_157, c1, ↓reduceIte]
        rfl
end LOAD
