/-! a month: the members pay -/
section PAY
variable {c m q B g : Nat} {P : Nat → Nat} {gu : Nat → Int32} {b : Nat → Nat} {aw ta ins : Nat → Int32} {F O G H S D : Nat → Nat}
variable {pd mg : Nat → Int32} {pn : Int32}
theorem pay1 (hc : c ≤ 8) (hi : Bo ins) (ha : Bo aw) (hP : ∀ j, P j ≤ 9000) (hq : q ≤ 20) : One (lp b_X1_payIn_7 FU (nI 0, (pd, mg, nI 0), (nI c, nI m, nI q, nI B, nI g, nf P, gu, nf b, aw, ta, ins, nf F, nf O, nf G, nf H, nf S, nf D))) (fun e => ∃ pd' mg' k P' F', e = (nI c, (pd', mg', nI (q * k)), (nI c, nI m, nI q, nI B, nI g, nf P', gu, nf b, aw, ta, ins, nf F', nf O, nf G, nf H, nf S, nf D)) ∧ k ≤ c ∧ su c P' + q * k = su c P ∧ su c F' = su c F + q * k ∧ (∀ j, P' j ≤ P j) ∧ (∀ j, F' j ≤ F j + 20) ∧ (∀ j, c ≤ j → F' j = F j) ∧ (∀ j, j < c → mg' j = 0 ∧ (pd' j = 0 ∨ pd' j = 1)) ∧ (∀ j, c ≤ j → mg' j = mg j ∧ pd' j = pd j) ∧ (k = 0 ∨ ∃ j, j < c ∧ ins j = 1)) := by
  refine lp_one (fun n s => ∃ i pd' mg' k P' F', s = (nI i, (pd', mg', nI (q * k)), (nI c, nI m, nI q, nI B, nI g, nf P', gu, nf b, aw, ta, ins, nf F', nf O, nf G, nf H, nf S, nf D)) ∧ i ≤ c ∧ n = c - i ∧ k ≤ i ∧ su c P' + q * k = su c P ∧ su c F' = su c F + q * k ∧ (∀ j, P' j ≤ P j) ∧ (∀ j, F' j ≤ F j + 20) ∧ (∀ j, i ≤ j → F' j = F j) ∧ (∀ j, j < i → mg' j = 0 ∧ (pd' j = 0 ∨ pd' j = 1)) ∧ (∀ j, c ≤ j → mg' j = mg j ∧ pd' j = pd j) ∧ (k = 0 ∨ ∃ j, j < c ∧ ins j = 1)) _ ?_ (n := c) ⟨0, pd, mg, 0, P, F, rfl, by omega, by omega, by omega, rfl, rfl, fun j => Nat.le_refl _, fun j => by omega, fun j _ => rfl, fun j h => by omega, fun j _ => ⟨rfl, rfl⟩, Or.inl rfl⟩ (FU_gt (by omega))
  rintro n s ⟨i, pd', mg', k, P', F', rfl, h1, rfl, h2, h3, h4, h5, h6, h7, h8, h9, h10⟩ J hJ
  by_cases h : i = c
  · subst h
    simp (disch := omega) only [b_X1_payIn_7, St_count, St_month, St_contribution, St_box, St_given, St_purse, St_guarantor, St_bid, St_away, St_taken, St_inside, St_paidForItself, St_paidForOthers, St_gotOfPot, St_shares, St_misses, St_debt, St_count_s, St_month_s, St_contribution_s, St_box_s, St_given_s, St_purse_s, St_guarantor_s, St_bid_s, St_away_s, St_taken_s, St_inside_s, St_paidForItself_s, St_paidForOthers_s, St_gotOfPot_s, St_shares_s, St_misses_s, St_debt_s, Rd_paid, Rd_missing, Rd_pence, Rd_paid_s, Rd_missing_s, Rd_pence_s, mul8, lt_e, bd_s, gi_ok, gz2, q_add, nI_s1, nI_clamp, upd_same, nar0, nar1, c0, nf_at, nf_un, nI_lei, Nat.le_refl, ↓reduceIte]
    exact ⟨pd', mg', k, P', F', rfl, h2, h3, h4, h5, h6, h7, h8, h9, h10⟩
  · have hic : i < c := by omega
    have nc : ¬ c ≤ i := by omega
    have b1 := h5 i
    have b2 := hP i
    have keep : ∀ (x : Int32), (x = 0 ∨ x = 1) → ∀ j, j < i + 1 → upd mg' i 0 j = 0 ∧ (upd pd' i x j = 0 ∨ upd pd' i x j = 1) := by
      intro x hx j hj
      by_cases e : j = i
      · subst e
        simp only [upd_same, true_and]
        exact hx
      · simp only [upd_ne e]
        exact h8 j (by omega)
    have far : ∀ (x : Int32), ∀ j, c ≤ j → upd mg' i 0 j = mg j ∧ upd pd' i x j = pd j := fun x j hj => by
      rw [upd_ne (by omega), upd_ne (by omega)]; exact h9 j hj
    have skip : J (nI (i + 1), (upd pd' i 0, upd mg' i 0, nI (q * k)), (nI c, nI m, nI q, nI B, nI g, nf P', gu, nf b, aw, ta, ins, nf F', nf O, nf G, nf H, nf S, nf D)) := hJ _ _ (by omega) ⟨i + 1, _, _, k, P', F', rfl, by omega, rfl, by omega, h3, h4, h5, h6, fun j hj => h7 j (by omega), keep 0 (Or.inl rfl), far 0, h10⟩
    rcases hi i with e1 | e1
    · simp (disch := omega) only [b_X1_payIn_7, St_count, St_month, St_contribution, St_box, St_given, St_purse, St_guarantor, St_bid, St_away, St_taken, St_inside, St_paidForItself, St_paidForOthers, St_gotOfPot, St_shares, St_misses, St_debt, St_count_s, St_month_s, St_contribution_s, St_box_s, St_given_s, St_purse_s, St_guarantor_s, St_bid_s, St_away_s, St_taken_s, St_inside_s, St_paidForItself_s, St_paidForOthers_s, St_gotOfPot_s, St_shares_s, St_misses_s, St_debt_s, Rd_paid, Rd_missing, Rd_pence, Rd_paid_s, Rd_missing_s, Rd_pence_s, mul8, lt_e, bd_s, gi_ok, gz2, q_add, nI_s1, nI_clamp, upd_same, nar0, nar1, c0, nf_at, nf_un, nI_lei, nc, e1, ↓reduceIte, z_ne, o_ne]
      exact skip
    · rcases ha i with e2 | e2
      · by_cases e3 : P' i < q
        · simp (disch := omega) only [b_X1_payIn_7, St_count, St_month, St_contribution, St_box, St_given, St_purse, St_guarantor, St_bid, St_away, St_taken, St_inside, St_paidForItself, St_paidForOthers, St_gotOfPot, St_shares, St_misses, St_debt, St_count_s, St_month_s, St_contribution_s, St_box_s, St_given_s, St_purse_s, St_guarantor_s, St_bid_s, St_away_s, St_taken_s, St_inside_s, St_paidForItself_s, St_paidForOthers_s, St_gotOfPot_s, St_shares_s, St_misses_s, St_debt_s, Rd_paid, Rd_missing, Rd_pence, Rd_paid_s, Rd_missing_s, Rd_pence_s, mul8, lt_e, bd_s, gi_ok, gz2, q_add, nI_s1, nI_clamp, upd_same, nar0, nar1, c0, nf_at, nf_un, nI_lei, nI_lti, nc, e1, e2, e3, ↓reduceIte, z_ne, o_ne]
          exact skip
        · simp (disch := omega) only [b_X1_payIn_7, St_count, St_month, St_contribution, St_box, St_given, St_purse, St_guarantor, St_bid, St_away, St_taken, St_inside, St_paidForItself, St_paidForOthers, St_gotOfPot, St_shares, St_misses, St_debt, St_count_s, St_month_s, St_contribution_s, St_box_s, St_given_s, St_purse_s, St_guarantor_s, St_bid_s, St_away_s, St_taken_s, St_inside_s, St_paidForItself_s, St_paidForOthers_s, St_gotOfPot_s, St_shares_s, St_misses_s, St_debt_s, Rd_paid, Rd_missing, Rd_pence, Rd_paid_s, Rd_missing_s, Rd_pence_s, mul8, lt_e, bd_s, gi_ok, gz2, q_add, nI_s1, nI_clamp, upd_same, nar0, nar1, c0, nf_at, nf_un, nI_lei, nI_lti, nI_sub, nc, e1, e2, e3, ↓reduceIte, z_ne, o_ne]
          have s1 := su_un (x := P' i - q) (f := P') hic
          have s2 := su_un (x := F' i + q) (f := F') hic
          have m1 : q * (k + 1) = q * k + q := Nat.mul_succ q k
          refine hJ _ _ (by omega) ⟨i + 1, _, _, k + 1, _, _, by rw [m1], by omega, rfl, by omega, by omega, by omega, un_le h5 (by omega), fun j => ?_, fun j hj => by rw [un_ne (by omega)]; exact h7 j (by omega), keep 1 (Or.inr rfl), far 1, Or.inr ⟨i, hic, e1⟩⟩
          by_cases e : j = i
          · subst e; rw [un_same, h7 j (Nat.le_refl _)]; omega
          · rw [un_ne e]; exact h6 j
      · simp (disch := omega) only [b_X1_payIn_7, St_count, St_month, St_contribution, St_box, St_given, St_purse, St_guarantor, St_bid, St_away, St_taken, St_inside, St_paidForItself, St_paidForOthers, St_gotOfPot, St_shares, St_misses, St_debt, St_count_s, St_month_s, St_contribution_s, St_box_s, St_given_s, St_purse_s, St_guarantor_s, St_bid_s, St_away_s, St_taken_s, St_inside_s, St_paidForItself_s, St_paidForOthers_s, St_gotOfPot_s, St_shares_s, St_misses_s, St_debt_s, Rd_paid, Rd_missing, Rd_pence, Rd_paid_s, Rd_missing_s, Rd_pence_s, mul8, lt_e, bd_s, gi_ok, gz2, q_add, nI_s1, nI_clamp, upd_same, nar0, nar1, c0, nf_at, nf_un, nI_lei, nc, e1, e2, ↓reduceIte, z_ne, o_ne]
        exact skip
theorem ex_no {v : StV} : f_X3_exists v (-99999:Int32) = some ((0:Int32), ()) := by
  unfold f_X3_exists
  rw [if_pos (by decide)]
theorem ex_yes {i : Nat} (h : i < c) (hc : c ≤ 8) : f_X3_exists (nI c, nI m, nI q, nI B, nI g, nf P, gu, nf b, aw, ta, ins, nf F, nf O, nf G, nf H, nf S, nf D) (nI i) = some ((1:Int32), ()) := by
  have n : ¬ c ≤ i := by omega
  simp (disch := omega) only [f_X3_exists, St_count, St_month, St_contribution, St_box, St_given, St_purse, St_guarantor, St_bid, St_away, St_taken, St_inside, St_paidForItself, St_paidForOthers, St_gotOfPot, St_shares, St_misses, St_debt, St_count_s, St_month_s, St_contribution_s, St_box_s, St_given_s, St_purse_s, St_guarantor_s, St_bid_s, St_away_s, St_taken_s, St_inside_s, St_paidForItself_s, St_paidForOthers_s, St_gotOfPot_s, St_shares_s, St_misses_s, St_debt_s, Rd_paid, Rd_missing, Rd_pence, Rd_paid_s, Rd_missing_s, Rd_pence_s, nI_nn, nI_lei, n, ↓reduceIte]
theorem pay2 (hc : c ≤ 8) (hi : Bo ins) (hg : Gu c gu) (hP : ∀ j, P j ≤ 9000) (hq : q ≤ 20) {t0 : Nat} (hm : ∀ j, j < c → mg j = 0 ∧ (pd j = 0 ∨ pd j = 1)) : One (lp b_X1_payIn_120 FU (nI 0, (pd, mg, nI t0), (nI c, nI m, nI q, nI B, nI g, nf P, gu, nf b, aw, ta, ins, nf F, nf O, nf G, nf H, nf S, nf D))) (fun e => ∃ mg' k P' O' S' D' d, e = (nI c, (pd, mg', nI (t0 + q * k)), (nI c, nI m, nI q, nI B, nI g, nf P', gu, nf b, aw, ta, ins, nf F, nf O', nf G, nf H, nf S', nf D')) ∧ k ≤ c ∧ su c P' + q * k = su c P ∧ su c O' = su c O + q * k ∧ su c S' = su c S + d ∧ d ≤ c ∧ (∀ j, P' j ≤ P j) ∧ (∀ j, c ≤ j → O' j = O j ∧ S' j = S j) ∧ (∀ k, D' k ≤ D k + 20) ∧ (Db c D → Db c D') ∧ (∀ j, j < c → (mg' j = 0 ∨ mg' j = 1)) ∧ (∀ j, c ≤ j → mg' j = mg j) ∧ (k = 0 ∨ ∃ j, j < c ∧ ins j = 1)) := by
  refine lp_one (fun n s => ∃ i mg' k P' O' S' D' d, s = (nI i, (pd, mg', nI (t0 + q * k)), (nI c, nI m, nI q, nI B, nI g, nf P', gu, nf b, aw, ta, ins, nf F, nf O', nf G, nf H, nf S', nf D')) ∧ i ≤ c ∧ n = c - i ∧ k ≤ i ∧ su c P' + q * k = su c P ∧ su c O' = su c O + q * k ∧ su c S' = su c S + d ∧ d ≤ i ∧ (∀ j, P' j ≤ P j) ∧ (∀ j, c ≤ j → O' j = O j ∧ S' j = S j) ∧ (∀ k, D' k ≤ D k + 20) ∧ (∀ k, i * 8 ≤ k → D' k = D k) ∧ (Db c D → Db c D') ∧ (∀ j, j < c → (mg' j = 0 ∨ mg' j = 1)) ∧ (∀ j, c ≤ j → mg' j = mg j) ∧ (k = 0 ∨ ∃ j, j < c ∧ ins j = 1)) _ ?_ (n := c) ⟨0, mg, 0, P, O, S, D, 0, rfl, by omega, by omega, by omega, rfl, rfl, rfl, by omega, fun j => Nat.le_refl _, fun j _ => ⟨rfl, rfl⟩, fun j => by omega, fun k _ => rfl, fun h => h, fun j hj => Or.inl (hm j hj).1, fun j _ => rfl, Or.inl rfl⟩ (FU_gt (by omega))
  rintro n s ⟨i, mg', k, P', O', S', D', d, rfl, h1, rfl, h2, h3, h4, h5, h6, h7, h8, h9, h10, h11, h12, h13, h14⟩ J hJ
  by_cases h : i = c
  · subst h
    simp (disch := omega) only [b_X1_payIn_120, St_count, St_month, St_contribution, St_box, St_given, St_purse, St_guarantor, St_bid, St_away, St_taken, St_inside, St_paidForItself, St_paidForOthers, St_gotOfPot, St_shares, St_misses, St_debt, St_count_s, St_month_s, St_contribution_s, St_box_s, St_given_s, St_purse_s, St_guarantor_s, St_bid_s, St_away_s, St_taken_s, St_inside_s, St_paidForItself_s, St_paidForOthers_s, St_gotOfPot_s, St_shares_s, St_misses_s, St_debt_s, Rd_paid, Rd_missing, Rd_pence, Rd_paid_s, Rd_missing_s, Rd_pence_s, mul8, lt_e, bd_s, gi_ok, gz2, q_add, nI_s1, nI_clamp, upd_same, nar0, nar1, c0, nf_at, nf_un, nI_lei, Nat.le_refl, ↓reduceIte]
    exact ⟨mg', k, P', O', S', D', d, rfl, h2, h3, h4, h5, h6, h7, h8, h9, h11, h12, h13, h14⟩
  · have hic : i < c := by omega
    have nc : ¬ c ≤ i := by omega
    have skip : J (nI (i + 1), (pd, mg', nI (t0 + q * k)), (nI c, nI m, nI q, nI B, nI g, nf P', gu, nf b, aw, ta, ins, nf F, nf O', nf G, nf H, nf S', nf D')) := hJ _ _ (by omega) ⟨i + 1, mg', k, _, _, _, _, d, rfl, by omega, rfl, by omega, h3, h4, h5, by omega, h7, h8, h9, fun k hk => h10 k (by omega), h11, h12, h13, h14⟩
    have miss : J (nI (i + 1), (pd, upd mg' i 1, nI (t0 + q * k)), (nI c, nI m, nI q, nI B, nI g, nf P', gu, nf b, aw, ta, ins, nf F, nf O', nf G, nf H, nf (un S' i (S' i + 1)), nf D')) := by
      have s1 := su_un (x := S' i + 1) (f := S') hic
      refine hJ _ _ (by omega) ⟨i + 1, _, k, _, _, _, _, d + 1, rfl, by omega, rfl, by omega, h3, h4, by omega, by omega, h7, fun j hj => by rw [un_ne (by omega)]; exact h8 j hj, h9, fun k hk => h10 k (by omega), h11, fun j hj => ?_, fun j hj => by rw [upd_ne (by omega)]; exact h13 j hj, h14⟩
      by_cases e : j = i
      · subst e; rw [upd_same]; exact Or.inr rfl
      · rw [upd_ne e]; exact h12 j hj
    rcases hi i with e1 | e1
    · simp (disch := omega) only [b_X1_payIn_120, St_count, St_month, St_contribution, St_box, St_given, St_purse, St_guarantor, St_bid, St_away, St_taken, St_inside, St_paidForItself, St_paidForOthers, St_gotOfPot, St_shares, St_misses, St_debt, St_count_s, St_month_s, St_contribution_s, St_box_s, St_given_s, St_purse_s, St_guarantor_s, St_bid_s, St_away_s, St_taken_s, St_inside_s, St_paidForItself_s, St_paidForOthers_s, St_gotOfPot_s, St_shares_s, St_misses_s, St_debt_s, Rd_paid, Rd_missing, Rd_pence, Rd_paid_s, Rd_missing_s, Rd_pence_s, mul8, lt_e, bd_s, gi_ok, gz2, q_add, nI_s1, nI_clamp, upd_same, nar0, nar1, c0, nf_at, nf_un, nI_lei, nc, e1, ↓reduceIte, z_ne, o_ne]
      exact skip
    · rcases (hm i hic).2 with e2 | e2
      · rcases hg i hic with e3 | ⟨g', hgc, hgi, e3⟩
        · simp (disch := omega) only [b_X1_payIn_120, f_X1_payForOther, ex_no, St_count, St_month, St_contribution, St_box, St_given, St_purse, St_guarantor, St_bid, St_away, St_taken, St_inside, St_paidForItself, St_paidForOthers, St_gotOfPot, St_shares, St_misses, St_debt, St_count_s, St_month_s, St_contribution_s, St_box_s, St_given_s, St_purse_s, St_guarantor_s, St_bid_s, St_away_s, St_taken_s, St_inside_s, St_paidForItself_s, St_paidForOthers_s, St_gotOfPot_s, St_shares_s, St_misses_s, St_debt_s, Rd_paid, Rd_missing, Rd_pence, Rd_paid_s, Rd_missing_s, Rd_pence_s, mul8, lt_e, bd_s, gi_ok, gz2, q_add, nI_s1, nI_clamp, upd_same, nar0, nar1, c0, nf_at, nf_un, nI_lei, nc, e1, e2, e3, ↓reduceIte, z_ne, o_ne]
          exact miss
        · have b1 := h7 g'
          have b2 := hP g'
          rcases (hm g' hgc).2 with e4 | e4
          · simp (disch := omega) only [b_X1_payIn_120, f_X1_payForOther, ex_yes, St_count, St_month, St_contribution, St_box, St_given, St_purse, St_guarantor, St_bid, St_away, St_taken, St_inside, St_paidForItself, St_paidForOthers, St_gotOfPot, St_shares, St_misses, St_debt, St_count_s, St_month_s, St_contribution_s, St_box_s, St_given_s, St_purse_s, St_guarantor_s, St_bid_s, St_away_s, St_taken_s, St_inside_s, St_paidForItself_s, St_paidForOthers_s, St_gotOfPot_s, St_shares_s, St_misses_s, St_debt_s, Rd_paid, Rd_missing, Rd_pence, Rd_paid_s, Rd_missing_s, Rd_pence_s, mul8, lt_e, bd_s, gi_ok, gz2, q_add, nI_s1, nI_clamp, upd_same, nar0, nar1, c0, nf_at, nf_un, nI_lei, nc, e1, e2, e3, e4, ↓reduceIte, z_ne, o_ne]
            exact miss
          · by_cases e5 : P' g' < q
            · simp (disch := omega) only [b_X1_payIn_120, f_X1_payForOther, ex_yes, St_count, St_month, St_contribution, St_box, St_given, St_purse, St_guarantor, St_bid, St_away, St_taken, St_inside, St_paidForItself, St_paidForOthers, St_gotOfPot, St_shares, St_misses, St_debt, St_count_s, St_month_s, St_contribution_s, St_box_s, St_given_s, St_purse_s, St_guarantor_s, St_bid_s, St_away_s, St_taken_s, St_inside_s, St_paidForItself_s, St_paidForOthers_s, St_gotOfPot_s, St_shares_s, St_misses_s, St_debt_s, Rd_paid, Rd_missing, Rd_pence, Rd_paid_s, Rd_missing_s, Rd_pence_s, mul8, lt_e, bd_s, gi_ok, gz2, q_add, nI_s1, nI_clamp, upd_same, nar0, nar1, c0, nf_at, nf_un, nI_lei, nI_lti, nc, e1, e2, e3, e4, e5, ↓reduceIte, z_ne, o_ne]
              exact miss
            · simp (disch := omega) only [b_X1_payIn_120, f_X1_payForOther, f_X3_pair, ex_yes, St_count, St_month, St_contribution, St_box, St_given, St_purse, St_guarantor, St_bid, St_away, St_taken, St_inside, St_paidForItself, St_paidForOthers, St_gotOfPot, St_shares, St_misses, St_debt, St_count_s, St_month_s, St_contribution_s, St_box_s, St_given_s, St_purse_s, St_guarantor_s, St_bid_s, St_away_s, St_taken_s, St_inside_s, St_paidForItself_s, St_paidForOthers_s, St_gotOfPot_s, St_shares_s, St_misses_s, St_debt_s, Rd_paid, Rd_missing, Rd_pence, Rd_paid_s, Rd_missing_s, Rd_pence_s, mul8, lt_e, bd_s, gi_ok, gz2, q_add, nI_s1, nI_clamp, upd_same, nar0, nar1, c0, nf_at, nf_un, nI_lei, nI_lti, nI_sub, nc, e1, e2, e3, e4, e5, ↓reduceIte, z_ne, o_ne]
              have s1 := su_un (x := P' g' - q) (f := P') hgc
              have s2 := su_un (x := O' g' + q) (f := O') hgc
              have m1 : q * (k + 1) = q * k + q := Nat.mul_succ q k
              refine hJ _ _ (by omega) ⟨i + 1, mg', k + 1, _, _, S', _, d, by rw [m1, Nat.add_assoc], by omega, rfl, by omega, by omega, by omega, h5, by omega, un_le h7 (by omega), fun j hj => ⟨by rw [un_ne (by omega)]; exact (h8 j hj).1, (h8 j hj).2⟩, fun j => ?_, fun j hj => by rw [un_ne (by omega)]; exact h10 j (by omega), fun hd j hj => ?_, h12, h13, Or.inr ⟨i, hic, e1⟩⟩
              · by_cases e : j = i * 8 + g'
                · subst e; rw [un_same, h10 _ (by omega)]; omega
                · rw [un_ne e]; exact h9 j
              · by_cases e : j = i * 8 + g'
                · exact ⟨i, g', hic, hgc, fun q => hgi q.symm, e⟩
                · rw [un_ne e] at hj; exact h11 hd j hj
      · simp (disch := omega) only [b_X1_payIn_120, St_count, St_month, St_contribution, St_box, St_given, St_purse, St_guarantor, St_bid, St_away, St_taken, St_inside, St_paidForItself, St_paidForOthers, St_gotOfPot, St_shares, St_misses, St_debt, St_count_s, St_month_s, St_contribution_s, St_box_s, St_given_s, St_purse_s, St_guarantor_s, St_bid_s, St_away_s, St_taken_s, St_inside_s, St_paidForItself_s, St_paidForOthers_s, St_gotOfPot_s, St_shares_s, St_misses_s, St_debt_s, Rd_paid, Rd_missing, Rd_pence, Rd_paid_s, Rd_missing_s, Rd_pence_s, mul8, lt_e, bd_s, gi_ok, gz2, q_add, nI_s1, nI_clamp, upd_same, nar0, nar1, c0, nf_at, nf_un, nI_lei, nc, e1, e2, ↓reduceIte, z_ne, o_ne]
        exact skip
/-- the first part of a month; the round that goes in does not matter -/
theorem payIn (hc : c ≤ 8) (hi : Bo ins) (ha : Bo aw) (hg : Gu c gu) (hP : ∀ j, P j ≤ 9000) (hq : q ≤ 20) (zp : Zi c pd) (zm : Zi c mg) : ∃ pd' mg' k P' F' O' S' D' d, f_X1_payIn (pd, mg, pn) (nI c, nI m, nI q, nI B, nI g, nf P, gu, nf b, aw, ta, ins, nf F, nf O, nf G, nf H, nf S, nf D) = some ((), ((pd', mg', nI (q * k)), (nI c, nI m, nI q, nI B, nI g, nf P', gu, nf b, aw, ta, ins, nf F', nf O', nf G, nf H, nf S', nf D'))) ∧ k ≤ 2 * c ∧ su c P' + q * k = su c P ∧ su c F' + su c O' = su c F + su c O + q * k ∧ su c S' = su c S + d ∧ d ≤ c ∧ (∀ j, P' j ≤ P j) ∧ (∀ j, F' j ≤ F j + 20) ∧ (∀ j, c ≤ j → F' j = F j ∧ O' j = O j ∧ S' j = S j) ∧ (∀ k, D' k ≤ D k + 20) ∧ (Db c D → Db c D') ∧ (∀ j, (mg' j = 0 ∨ mg' j = 1)) ∧ Zi c pd' ∧ Zi c mg' ∧ (k = 0 ∨ ∃ j, j < c ∧ ins j = 1) := by
  obtain ⟨e, a1, pd1, mg1, k1, P1, F1, rfl, b1, b2, b3, b4, b5, b6, b7, b8, b9⟩ := on_get (pay1 (pd := pd) (mg := mg) (m := m) (q := q) (B := B) (g := g) (gu := gu) (b := b) (ta := ta) (F := F) (O := O) (G := G) (H := H) (S := S) (D := D) hc hi ha hP hq)
  obtain ⟨e, a2, mg2, k2, P2, O2, S2, D2, d, rfl, c1, c2, c3, c4, c5, c6, c7, c8, c9, c10, c11, c12⟩ := on_get (pay2 (pd := pd1) (mg := mg1) (t0 := q * k1) (m := m) (q := q) (B := B) (g := g) (b := b) (aw := aw) (ta := ta) (P := P1) (F := F1) (O := O) (G := G) (H := H) (S := S) (D := D) hc hi hg (fun j => Nat.le_trans (b4 j) (hP j)) hq b7)
  have m1 : q * (k1 + k2) = q * k1 + q * k2 := Nat.mul_add q k1 k2
  have a1 : lp b_X1_payIn_7 FU ((0:Int32), (pd, mg, (0:Int32)), (nI c, nI m, nI q, nI B, nI g, nf P, gu, nf b, aw, ta, ins, nf F, nf O, nf G, nf H, nf S, nf D)) = _ := a1
  have a2 : lp b_X1_payIn_120 FU ((0:Int32), (pd1, mg1, nI (q * k1)), (nI c, nI m, nI q, nI B, nI g, nf P1, gu, nf b, aw, ta, ins, nf F1, nf O, nf G, nf H, nf S, nf D)) = _ := a2
  refine ⟨pd1, mg2, k1 + k2, P2, F1, O2, S2, D2, d, ?_, by omega, by omega, by omega, c4, c5, fun j => Nat.le_trans (c6 j) (b4 j), b5, fun j hj => ⟨b6 j hj, c7 j hj⟩, c8, c9, fun j => ?_, fun j hj => by rw [(b8 j hj).2]; exact zp j hj, fun j hj => by rw [c11 j hj, (b8 j hj).1]; exact zm j hj, ?_⟩
  · simp only [f_X1_payIn, St_count, St_month, St_contribution, St_box, St_given, St_purse, St_guarantor, St_bid, St_away, St_taken, St_inside, St_paidForItself, St_paidForOthers, St_gotOfPot, St_shares, St_misses, St_debt, St_count_s, St_month_s, St_contribution_s, St_box_s, St_given_s, St_purse_s, St_guarantor_s, St_bid_s, St_away_s, St_taken_s, St_inside_s, St_paidForItself_s, St_paidForOthers_s, St_gotOfPot_s, St_shares_s, St_misses_s, St_debt_s, Rd_paid, Rd_missing, Rd_pence, Rd_paid_s, Rd_missing_s, Rd_pence_s, lt_e, a1, bd_s, a2, m1]
  · by_cases hj : j < c
    · exact c10 j hj
    · exact Or.inl (by rw [c11 j (by omega), (b8 j (by omega)).1]; exact zm j (by omega))
  · rcases b9 with q1 | q1
    · rcases c12 with q2 | q2
      · exact Or.inl (by omega)
      · exact Or.inr q2
    · exact Or.inr q1
end PAY
