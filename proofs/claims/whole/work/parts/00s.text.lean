/-! the text: digits -/
def Sg (n : Nat) (sg tx : Nat → Int32) : Prop := n ≤ 100 ∧ ∀ k, k < n → sg k = tx k ∧ ∃ a, a ≤ 255 ∧ tx k = nI a
theorem lp_u {S E : Type} {b : S → Option (S ⊕ E)} {s s' : S} {k : Nat} {e : E} (h : b s = some (.inl s')) (q : lp b k s' = some e) : lp b (k + 1) s = some e := by rw [lp, h]; exact q
theorem lp_x {S E : Type} {b : S → Option (S ⊕ E)} {s : S} {k : Nat} {e : E} (h : b s = some (.inr e)) : lp b (k + 1) s = some e := by rw [lp, h]
theorem FU_le {n : Nat} (h : n ≤ 1000000) : n ≤ FU := h
theorem el_l {S R B : Type} {s : S} {k : S → Option B} {g : R → B} : el (.inl s) k g = k s := (fun (_ : True) => rfl) trivial
theorem el_r {S R B : Type} {r : R} {k : S → Option B} {g : R → B} : el (.inr r) k g = some (g r) := (fun (_ : True) => rfl) trivial
theorem mm : ((-99999:Int32) = -99999) = True := by simp
section TEXT
variable {th : Int32} {z past : Nat → Int32} {pm : Int32} {sl sv sp tx : Nat → Int32} {ty : Int32} {hp mi : Nat → Int32} {pot : Int32} {rd : Nat → Int32} {spt wr : Int32}
variable {n : Nat} {sg : Nat → Int32}
theorem letter_in (h : Sg n sg tx) {p : Nat} (hq : p < n) : f_X6_letter (th, z, past, pm, sl, sv, sp, tx, nI n, hp, mi, pot, rd, spt, wr) (nI p) = some (tx p, ()) := by
  have h1 := h.1
  simp (disch := omega) only [f_X6_letter, St_count, St_month, St_contribution, St_box, St_given, St_purse, St_guarantor, St_bid, St_away, St_taken, St_inside, St_paidForItself, St_paidForOthers, St_gotOfPot, St_shares, St_misses, St_debt, St_count_s, St_month_s, St_contribution_s, St_box_s, St_given_s, St_purse_s, St_guarantor_s, St_bid_s, St_away_s, St_taken_s, St_inside_s, St_paidForItself_s, St_paidForOthers_s, St_gotOfPot_s, St_shares_s, St_misses_s, St_debt_s, Rd_paid, Rd_missing, Rd_pence, Rd_paid_s, Rd_missing_s, Rd_pence_s, Md_thrown, Md_z, Md_past, Md_pastMany, Md_slots, Md_isSaved, Md_spare, Md_text, Md_typed, Md_hasPaid, Md_misses, Md_potNow, Md_read, Md_spot, Md_wrong, Md_thrown_s, Md_z_s, Md_past_s, Md_pastMany_s, Md_slots_s, Md_isSaved_s, Md_spare_s, Md_text_s, Md_typed_s, Md_hasPaid_s, Md_misses_s, Md_potNow_s, Md_read_s, Md_spot_s, Md_wrong_s, nI_lei, show ¬ n ≤ p by omega, gi_ok, nI_clamp, ↓reduceIte]
theorem letter_out {p : Nat} (hn : n ≤ 100) (hq : n ≤ p) (hp2 : p ≤ 1000) : f_X6_letter (th, z, past, pm, sl, sv, sp, tx, nI n, hp, mi, pot, rd, spt, wr) (nI p) = some (-1, ()) := by
  simp (disch := omega) only [f_X6_letter, St_count, St_month, St_contribution, St_box, St_given, St_purse, St_guarantor, St_bid, St_away, St_taken, St_inside, St_paidForItself, St_paidForOthers, St_gotOfPot, St_shares, St_misses, St_debt, St_count_s, St_month_s, St_contribution_s, St_box_s, St_given_s, St_purse_s, St_guarantor_s, St_bid_s, St_away_s, St_taken_s, St_inside_s, St_paidForItself_s, St_paidForOthers_s, St_gotOfPot_s, St_shares_s, St_misses_s, St_debt_s, Rd_paid, Rd_missing, Rd_pence, Rd_paid_s, Rd_missing_s, Rd_pence_s, Md_thrown, Md_z, Md_past, Md_pastMany, Md_slots, Md_isSaved, Md_spare, Md_text, Md_typed, Md_hasPaid, Md_misses, Md_potNow, Md_read, Md_spot, Md_wrong, Md_thrown_s, Md_z_s, Md_past_s, Md_pastMany_s, Md_slots_s, Md_isSaved_s, Md_spare_s, Md_text_s, Md_typed_s, Md_hasPaid_s, Md_misses_s, Md_potNow_s, Md_read_s, Md_spot_s, Md_wrong_s, nI_lei, hq, ↓reduceIte]
theorem letter_any (h : Sg n sg tx) {p : Nat} (hp2 : p ≤ 1000) : ∃ x, f_X6_letter (th, z, past, pm, sl, sv, sp, tx, nI n, hp, mi, pot, rd, spt, wr) (nI p) = some (x, ()) := by
  by_cases hq : p < n
  · exact ⟨_, letter_in h hq⟩
  · exact ⟨_, letter_out h.1 (by omega) hp2⟩
theorem takes_wr (h : Sg n sg tx) {s w : Nat} (hs : s ≤ 1000) (hw : w ≤ 1000) (a b : Int32) : ∃ x, f_X6_takes (th, z, past, pm, sl, sv, sp, tx, nI n, hp, mi, pot, rd, nI s, nI w) a b = some (x, (th, z, past, pm, sl, sv, sp, tx, nI n, hp, mi, pot, rd, nI (s + 1), nI w)) := by
  obtain ⟨x, e⟩ := letter_any h hs (th := th) (z := z) (past := past) (pm := pm) (sl := sl) (sv := sv) (sp := sp) (hp := hp) (mi := mi) (pot := pot) (rd := rd) (spt := nI s) (wr := nI w)
  refine ⟨x - (48:Int32), ?_⟩
  simp (disch := omega) only [f_X6_takes, St_count, St_month, St_contribution, St_box, St_given, St_purse, St_guarantor, St_bid, St_away, St_taken, St_inside, St_paidForItself, St_paidForOthers, St_gotOfPot, St_shares, St_misses, St_debt, St_count_s, St_month_s, St_contribution_s, St_box_s, St_given_s, St_purse_s, St_guarantor_s, St_bid_s, St_away_s, St_taken_s, St_inside_s, St_paidForItself_s, St_paidForOthers_s, St_gotOfPot_s, St_shares_s, St_misses_s, St_debt_s, Rd_paid, Rd_missing, Rd_pence, Rd_paid_s, Rd_missing_s, Rd_pence_s, Md_thrown, Md_z, Md_past, Md_pastMany, Md_slots, Md_isSaved, Md_spare, Md_text, Md_typed, Md_hasPaid, Md_misses, Md_potNow, Md_read, Md_spot, Md_wrong, Md_thrown_s, Md_z_s, Md_past_s, Md_pastMany_s, Md_slots_s, Md_isSaved_s, Md_spare_s, Md_text_s, Md_typed_s, Md_hasPaid_s, Md_misses_s, Md_potNow_s, Md_read_s, Md_spot_s, Md_wrong_s, e, bd_s, lt_e, nI_neg, nI_s1, ↓reduceIte]
theorem digit (h : Sg n sg tx) {p lo hi : Nat} (hp9 : p ≤ n) (hl : lo ≤ 9) (hh : hi ≤ 9) : (∃ d, lo ≤ d ∧ d ≤ hi ∧ p < n ∧ (∀ o, f_X4_readDigit (sg, nI n, nI p) (nI lo) (nI hi) o = if nI d = o then some ((-99999:Int32), (sg, nI n, nI p)) else some (nI d, (sg, nI n, nI (p + 1)))) ∧ f_X6_takes (th, z, past, pm, sl, sv, sp, tx, nI n, hp, mi, pot, rd, nI p, -99999) (nI lo) (nI hi) = some (nI d, (th, z, past, pm, sl, sv, sp, tx, nI n, hp, mi, pot, rd, nI (p + 1), -99999))) ∨ ((∀ o, f_X4_readDigit (sg, nI n, nI p) (nI lo) (nI hi) o = some ((-99999:Int32), (sg, nI n, nI p))) ∧ ∃ x, f_X6_takes (th, z, past, pm, sl, sv, sp, tx, nI n, hp, mi, pot, rd, nI p, -99999) (nI lo) (nI hi) = some (x, (th, z, past, pm, sl, sv, sp, tx, nI n, hp, mi, pot, rd, nI (p + 1), nI p))) := by
  have h1 := h.1
  have k48 : (48:Int32) = nI 48 := rfl
  have e48 : ∀ k, (48:Int32) + nI k = nI (48 + k) := fun k => q_add 48 k
  by_cases hpn : p < n
  · obtain ⟨s1, a, ha, s2⟩ := h.2 p hpn
    have e := letter_in h hpn (th := th) (z := z) (past := past) (pm := pm) (sl := sl) (sv := sv) (sp := sp) (hp := hp) (mi := mi) (pot := pot) (rd := rd) (spt := nI p) (wr := (-99999:Int32))
    rw [s2] at e s1
    by_cases hin : 48 + lo ≤ a ∧ a ≤ 48 + hi
    · have eq : f_X6_in (nI a) (nI (48 + lo)) (nI (48 + hi)) = some ((1:Int32), ()) := in_k2 hin.1 hin.2 (by omega)
      have es : nI a - nI 48 = nI (a - 48) := nI_sub (by omega)
      refine Or.inl ⟨a - 48, by omega, by omega, hpn, fun o => ?_, ?_⟩
      · simp (disch := omega) only [f_X4_readDigit, Tx_at, Tx_length, Tx_signs, Tx_at_s, nI_lti, hpn, gi_ok, nI_clamp, s1, k48, es, lt_e, nI_s1, show ¬ a - 48 < lo by omega, show ¬ hi < a - 48 by omega, ↓reduceIte]
      · simp (disch := omega) only [f_X6_takes, St_count, St_month, St_contribution, St_box, St_given, St_purse, St_guarantor, St_bid, St_away, St_taken, St_inside, St_paidForItself, St_paidForOthers, St_gotOfPot, St_shares, St_misses, St_debt, St_count_s, St_month_s, St_contribution_s, St_box_s, St_given_s, St_purse_s, St_guarantor_s, St_bid_s, St_away_s, St_taken_s, St_inside_s, St_paidForItself_s, St_paidForOthers_s, St_gotOfPot_s, St_shares_s, St_misses_s, St_debt_s, Rd_paid, Rd_missing, Rd_pence, Rd_paid_s, Rd_missing_s, Rd_pence_s, Md_thrown, Md_z, Md_past, Md_pastMany, Md_slots, Md_isSaved, Md_spare, Md_text, Md_typed, Md_hasPaid, Md_misses, Md_potNow, Md_read, Md_spot, Md_wrong, Md_thrown_s, Md_z_s, Md_past_s, Md_pastMany_s, Md_slots_s, Md_isSaved_s, Md_spare_s, Md_text_s, Md_typed_s, Md_hasPaid_s, Md_misses_s, Md_potNow_s, Md_read_s, Md_spot_s, Md_wrong_s, e, bd_s, q_add, eq, o_ne, k48, es, lt_e, nI_s1, ↓reduceIte]
    · have eq : f_X6_in (nI a) (nI (48 + lo)) (nI (48 + hi)) = some ((0:Int32), ()) := by
        refine in_no ?_
        by_cases q : a < 48 + lo
        · exact Or.inl ((nI_lti (by omega) (by omega)).mpr q)
        · exact Or.inr ((nI_lti (by omega) (by omega)).mpr (by omega))
      refine Or.inr ⟨fun o => ?_, nI a - (48:Int32), ?_⟩
      · by_cases q : a < 48 + lo
        · have ql : nI a - nI 48 < nI lo := by
            by_cases q2 : a < 48
            · exact Int32.lt_of_lt_of_le (pk_sneg (by omega) q2) (nI_pos' (by omega))
            · rw [nI_sub (by omega), nI_lti (by omega) (by omega)]; omega
          simp (disch := omega) only [f_X4_readDigit, Tx_at, Tx_length, Tx_signs, Tx_at_s, nI_lti, hpn, gi_ok, nI_clamp, s1, k48, lt_e, ql, ↓reduceIte]
        · have es : nI a - nI 48 = nI (a - 48) := nI_sub (by omega)
          simp (disch := omega) only [f_X4_readDigit, Tx_at, Tx_length, Tx_signs, Tx_at_s, nI_lti, hpn, gi_ok, nI_clamp, s1, k48, es, lt_e, show ¬ a - 48 < lo by omega, show hi < a - 48 by omega, ↓reduceIte]
      · simp (disch := omega) only [f_X6_takes, St_count, St_month, St_contribution, St_box, St_given, St_purse, St_guarantor, St_bid, St_away, St_taken, St_inside, St_paidForItself, St_paidForOthers, St_gotOfPot, St_shares, St_misses, St_debt, St_count_s, St_month_s, St_contribution_s, St_box_s, St_given_s, St_purse_s, St_guarantor_s, St_bid_s, St_away_s, St_taken_s, St_inside_s, St_paidForItself_s, St_paidForOthers_s, St_gotOfPot_s, St_shares_s, St_misses_s, St_debt_s, Rd_paid, Rd_missing, Rd_pence, Rd_paid_s, Rd_missing_s, Rd_pence_s, Md_thrown, Md_z, Md_past, Md_pastMany, Md_slots, Md_isSaved, Md_spare, Md_text, Md_typed, Md_hasPaid, Md_misses, Md_potNow, Md_read, Md_spot, Md_wrong, Md_thrown_s, Md_z_s, Md_past_s, Md_pastMany_s, Md_slots_s, Md_isSaved_s, Md_spare_s, Md_text_s, Md_typed_s, Md_hasPaid_s, Md_misses_s, Md_potNow_s, Md_read_s, Md_spot_s, Md_wrong_s, e, bd_s, e48, eq, lt_e, nI_s1, ↓reduceIte]
  · have e := letter_out h1 (show n ≤ p by omega) (by omega) (th := th) (z := z) (past := past) (pm := pm) (sl := sl) (sv := sv) (sp := sp) (tx := tx) (hp := hp) (mi := mi) (pot := pot) (rd := rd) (spt := nI p) (wr := (-99999:Int32))
    have eq : f_X6_in (-1:Int32) (nI (48 + lo)) (nI (48 + hi)) = some ((0:Int32), ()) := in_no (Or.inl (Int32.lt_of_lt_of_le (by decide : (-1:Int32) < 0) (nI_pos' (by omega))))
    refine Or.inr ⟨fun o => ?_, (-1:Int32) - (48:Int32), ?_⟩
    · simp (disch := omega) only [f_X4_readDigit, Tx_at, Tx_length, Tx_signs, Tx_at_s, nI_lti, hpn, ↓reduceIte]
    · simp (disch := omega) only [f_X6_takes, St_count, St_month, St_contribution, St_box, St_given, St_purse, St_guarantor, St_bid, St_away, St_taken, St_inside, St_paidForItself, St_paidForOthers, St_gotOfPot, St_shares, St_misses, St_debt, St_count_s, St_month_s, St_contribution_s, St_box_s, St_given_s, St_purse_s, St_guarantor_s, St_bid_s, St_away_s, St_taken_s, St_inside_s, St_paidForItself_s, St_paidForOthers_s, St_gotOfPot_s, St_shares_s, St_misses_s, St_debt_s, Rd_paid, Rd_missing, Rd_pence, Rd_paid_s, Rd_missing_s, Rd_pence_s, Md_thrown, Md_z, Md_past, Md_pastMany, Md_slots, Md_isSaved, Md_spare, Md_text, Md_typed, Md_hasPaid, Md_misses, Md_potNow, Md_read, Md_spot, Md_wrong, Md_thrown_s, Md_z_s, Md_past_s, Md_pastMany_s, Md_slots_s, Md_isSaved_s, Md_spare_s, Md_text_s, Md_typed_s, Md_hasPaid_s, Md_misses_s, Md_potNow_s, Md_read_s, Md_spot_s, Md_wrong_s, e, bd_s, e48, eq, lt_e, nI_s1, ↓reduceIte]
theorem three_s {tv tv' : TxV} {k a d : Nat} (hk : k < 3) (hd : d ≤ 9) (e : f_X4_readDigit tv (0:Int32) (9:Int32) (-99999:Int32) = some (nI d, tv')) : b_X4_readThreeDigits_4 (nI a, nI k, tv) = some (.inl (nI (10 * a + d), nI (k + 1), tv')) := by
  have e10 : (10:Int32) * nI a = nI (10 * a) := q_mul 10 a
  simp (disch := omega) only [b_X4_readThreeDigits_4, le3, show ¬ 3 ≤ k by omega, e, bd_s, nI_neg, lt_e, e10, q_add, nI_s1, ↓reduceIte]
theorem three_n {tv tv' : TxV} {k : Nat} {a : Int32} (hk : k < 3) (e : f_X4_readDigit tv (0:Int32) (9:Int32) (-99999:Int32) = some ((-99999:Int32), tv')) : b_X4_readThreeDigits_4 (a, nI k, tv) = some (.inr (.inr ((-99999:Int32), tv'))) := by
  simp (disch := omega) only [b_X4_readThreeDigits_4, le3, show ¬ 3 ≤ k by omega, e, bd_s, ↓reduceIte]
theorem three_e {tv : TxV} {a : Int32} : b_X4_readThreeDigits_4 (a, nI 3, tv) = some (.inr (.inl (a, nI 3, tv))) := by
  simp (disch := omega) only [b_X4_readThreeDigits_4, le3, Nat.le_refl, ↓reduceIte]
theorem three (h : Sg n sg tx) {p : Nat} (hp9 : p ≤ n) : (∃ k, k ≤ 999 ∧ p + 3 ≤ n ∧ f_X4_readThreeDigits (sg, nI n, nI p) = some (nI k, (sg, nI n, nI (p + 3))) ∧ f_X6_takesThree (th, z, past, pm, sl, sv, sp, tx, nI n, hp, mi, pot, rd, nI p, -99999) = some (nI k, (th, z, past, pm, sl, sv, sp, tx, nI n, hp, mi, pot, rd, nI (p + 3), -99999))) ∨ (∃ e, e ≤ n ∧ f_X4_readThreeDigits (sg, nI n, nI p) = some ((-99999:Int32), (sg, nI n, nI e)) ∧ ∃ x, f_X6_takesThree (th, z, past, pm, sl, sv, sp, tx, nI n, hp, mi, pot, rd, nI p, -99999) = some (x, (th, z, past, pm, sl, sv, sp, tx, nI n, hp, mi, pot, rd, nI (p + 3), nI e))) := by
  have h1 := h.1
  have m100 : ∀ k, (100:Int32) * nI k = nI (100 * k) := fun k => q_mul 100 k
  have m10 : ∀ k, (10:Int32) * nI k = nI (10 * k) := fun k => q_mul 10 k
  have wr1 : ∀ s w, s ≤ 1000 → w ≤ 1000 → ∃ x, f_X6_takes (th, z, past, pm, sl, sv, sp, tx, nI n, hp, mi, pot, rd, nI s, nI w) (0:Int32) (9:Int32) = some (x, (th, z, past, pm, sl, sv, sp, tx, nI n, hp, mi, pot, rd, nI (s + 1), nI w)) := fun s w hs hw => takes_wr h hs hw (0:Int32) (9:Int32)
  have dg : ∀ p, p ≤ n → (∃ d, d ≤ 9 ∧ p < n ∧ f_X4_readDigit (sg, nI n, nI p) (0:Int32) (9:Int32) (-99999:Int32) = some (nI d, (sg, nI n, nI (p + 1))) ∧ f_X6_takes (th, z, past, pm, sl, sv, sp, tx, nI n, hp, mi, pot, rd, nI p, -99999) (0:Int32) (9:Int32) = some (nI d, (th, z, past, pm, sl, sv, sp, tx, nI n, hp, mi, pot, rd, nI (p + 1), -99999))) ∨ (f_X4_readDigit (sg, nI n, nI p) (0:Int32) (9:Int32) (-99999:Int32) = some ((-99999:Int32), (sg, nI n, nI p)) ∧ ∃ x, f_X6_takes (th, z, past, pm, sl, sv, sp, tx, nI n, hp, mi, pot, rd, nI p, -99999) (0:Int32) (9:Int32) = some (x, (th, z, past, pm, sl, sv, sp, tx, nI n, hp, mi, pot, rd, nI (p + 1), nI p))) := fun p hp0 => by
    rcases digit h hp0 (lo := 0) (hi := 9) (by omega) (by omega) (th := th) (z := z) (past := past) (pm := pm) (sl := sl) (sv := sv) (sp := sp) (hp := hp) (mi := mi) (pot := pot) (rd := rd) with ⟨d, -, d2, d3, d4, d5⟩ | ⟨d4, d5⟩
    · have w := d4 (-99999:Int32)
      rw [if_neg (fun q => (nI_neg (by omega)).mp q)] at w
      exact Or.inl ⟨d, d2, d3, w, d5⟩
    · exact Or.inr ⟨d4 _, d5⟩
  rcases dg p hp9 with ⟨d1, a1, a2, a3, a4⟩ | ⟨a3, x1, a4⟩
  · rcases dg (p + 1) (by omega) with ⟨d2, b1, b2, b3, b4⟩ | ⟨b3, x2, b4⟩
    · rcases dg (p + 2) (by omega) with ⟨d3, c1, c2, c3, c4⟩ | ⟨c3, x3, c4⟩
      · refine Or.inl ⟨100 * d1 + 10 * d2 + d3, by omega, by omega, ?_, ?_⟩
        · have q := lp_mono 4 FU _ _ (FU_le (by omega)) (lp_u (three_s (k := 0) (a := 0) (by omega) a1 a3) (lp_u (three_s (k := 1) (by omega) b1 b3) (lp_u (three_s (k := 2) (by omega) c1 c3) (lp_x (k := 0) three_e))))
          have q : lp b_X4_readThreeDigits_4 FU ((0:Int32), (0:Int32), (sg, nI n, nI p)) = _ := q
          rw [f_X4_readThreeDigits, q, bd_s, el_l, show 10 * (10 * (10 * 0 + d1) + d2) + d3 = 100 * d1 + 10 * d2 + d3 by omega]
        · simp only [f_X6_takesThree, a4, b4, c4, bd_s, lt_e, m100, m10, q_add]
      · refine Or.inr ⟨p + 2, by omega, ?_, ((100:Int32) * nI d1 + (10:Int32) * nI d2) + x3, ?_⟩
        · have q := lp_mono 3 FU _ _ (FU_le (by omega)) (lp_u (three_s (k := 0) (a := 0) (by omega) a1 a3) (lp_u (three_s (k := 1) (by omega) b1 b3) (lp_x (k := 0) (three_n (k := 2) (by omega) c3))))
          have q : lp b_X4_readThreeDigits_4 FU ((0:Int32), (0:Int32), (sg, nI n, nI p)) = _ := q
          rw [f_X4_readThreeDigits, q, bd_s, el_r]
        · simp only [f_X6_takesThree, a4, b4, c4, bd_s, lt_e]
    · obtain ⟨x3, c4⟩ := wr1 (p + 2) (p + 1) (by omega) (by omega)
      refine Or.inr ⟨p + 1, by omega, ?_, ((100:Int32) * nI d1 + (10:Int32) * x2) + x3, ?_⟩
      · have q := lp_mono 2 FU _ _ (FU_le (by omega)) (lp_u (three_s (k := 0) (a := 0) (by omega) a1 a3) (lp_x (k := 0) (three_n (k := 1) (by omega) b3)))
        have q : lp b_X4_readThreeDigits_4 FU ((0:Int32), (0:Int32), (sg, nI n, nI p)) = _ := q
        rw [f_X4_readThreeDigits, q, bd_s, el_r]
      · simp only [f_X6_takesThree, a4, b4, c4, bd_s, lt_e]
  · obtain ⟨x2, b4⟩ := wr1 (p + 1) p (by omega) (by omega)
    obtain ⟨x3, c4⟩ := wr1 (p + 2) p (by omega) (by omega)
    refine Or.inr ⟨p, by omega, ?_, ((100:Int32) * x1 + (10:Int32) * x2) + x3, ?_⟩
    · have q := lp_mono 1 FU _ _ (FU_le (by omega)) (lp_x (k := 0) (three_n (a := (0:Int32)) (k := 0) (by omega) a3))
      have q : lp b_X4_readThreeDigits_4 FU ((0:Int32), (0:Int32), (sg, nI n, nI p)) = _ := q
      rw [f_X4_readThreeDigits, q, bd_s, el_r]
    · simp only [f_X6_takesThree, a4, b4, c4, bd_s, lt_e]
end TEXT
