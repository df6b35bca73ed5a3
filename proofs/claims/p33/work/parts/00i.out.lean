/-! a month: the pot is paid out; the month as a whole -/
section OUT
variable {c m q B g : Nat} {P : Nat → Nat} {gu : Nat → Int32} {b : Nat → Nat} {aw ta ins : Nat → Int32} {F O G H S D : Nat → Nat}
variable {pd mg : Nat → Int32} {t : Nat}
theorem settle_w {w j r : Nat} (hw : w < 8) (hj : j < 8) (hr : r ≤ 20000) (hD : ∀ k, D k ≤ 20000) : ∃ x, x ≤ r ∧ x ≤ D (w * 8 + j) ∧ x = (if r < D (w * 8 + j) then r else D (w * 8 + j)) ∧ f_X3_settle (nI c, nI m, nI q, nI B, nI g, nf P, gu, nf b, aw, ta, ins, nf F, nf O, nf G, nf H, nf S, nf D) (nI w) (nI j) (nI r) = some (nI x, (nI c, nI m, nI q, nI B, nI g, nf (un P j (P j + x)), gu, nf b, aw, ta, ins, nf F, nf O, nf G, nf H, nf S, nf (un D (w * 8 + j) (D (w * 8 + j) - x)))) := by
  have h1 := hD (w * 8 + j)
  have e := settle_x (c := c) (mo := nI m) (co := nI q) (bo := nI B) (gv := nI g) (pu := nf P) (gu := gu) (bi := nf b) (aw := aw) (ta := ta) (ins := ins) (pf := nf F) (po := nf O) (go := nf G) (sh := nf H) (ms := nf S) (de := nf D) hw hj (r := nI r)
  rw [e]
  by_cases q : r < D (w * 8 + j)
  · have q' : nI r < nI (D (w * 8 + j)) := (nI_lti (by omega) (by omega)).mpr q
    refine ⟨r, Nat.le_refl _, by omega, by rw [if_pos q], ?_⟩
    simp (disch := omega) only [nf_at, if_pos q', q_add, nI_sub, nf_un]
  · have q' : ¬ nI r < nI (D (w * 8 + j)) := fun z => q ((nI_lti (by omega) (by omega)).mp z)
    refine ⟨D (w * 8 + j), by omega, Nat.le_refl _, by rw [if_neg q], ?_⟩
    simp (disch := omega) only [nf_at, if_neg q', q_add, nI_sub, nf_un]
theorem rest {w r : Nat} (hc : c ≤ 8) (hw : w < c) (hr : r ≤ 20000) (hD : ∀ k, D k ≤ 20000) (hd : Db c D) : One (lp (b_X1_payOut_29 (pd, mg, nI t) (nI w)) FU (nI r, nI 0, (nI c, nI m, nI q, nI B, nI g, nf P, gu, nf b, aw, ta, ins, nf F, nf O, nf G, nf H, nf S, nf D))) (fun e => ∃ r' P' D', e = (nI r', nI c, (nI c, nI m, nI q, nI B, nI g, nf P', gu, nf b, aw, ta, ins, nf F, nf O, nf G, nf H, nf S, nf D')) ∧ su c P' + r' = su c P + r ∧ (∀ k, D' k ≤ D k) ∧ (∀ j, c ≤ j → P' j = P j)) := by
  refine lp_one (fun n s => ∃ k r' P' D', s = (nI r', nI k, (nI c, nI m, nI q, nI B, nI g, nf P', gu, nf b, aw, ta, ins, nf F, nf O, nf G, nf H, nf S, nf D')) ∧ k ≤ c ∧ n = c - k ∧ su c P' + r' = su c P + r ∧ r' ≤ r ∧ (∀ k, D' k ≤ D k) ∧ (∀ j, c ≤ j → P' j = P j)) _ ?_ (n := c) ⟨0, r, P, D, rfl, by omega, by omega, rfl, Nat.le_refl _, fun k => Nat.le_refl _, fun j _ => rfl⟩ (FU_gt (by omega))
  rintro n s ⟨k, r', P', D', rfl, h1, rfl, h2, h3, h4, h5⟩ J hJ
  by_cases h : k = c
  · subst h
    simp (disch := omega) only [b_X1_payOut_29, St_count, St_month, St_contribution, St_box, St_given, St_purse, St_guarantor, St_bid, St_away, St_taken, St_inside, St_paidForItself, St_paidForOthers, St_gotOfPot, St_shares, St_misses, St_debt, St_count_s, St_month_s, St_contribution_s, St_box_s, St_given_s, St_purse_s, St_guarantor_s, St_bid_s, St_away_s, St_taken_s, St_inside_s, St_paidForItself_s, St_paidForOthers_s, St_gotOfPot_s, St_shares_s, St_misses_s, St_debt_s, Rd_paid, Rd_missing, Rd_pence, Rd_paid_s, Rd_missing_s, Rd_pence_s, mul8, lt_e, bd_s, gi_ok, gz2, q_add, nI_s1, nI_clamp, upd_same, nar0, nar1, c0, nf_at, nf_un, nI_lei, Nat.le_refl, ↓reduceIte]
    exact ⟨r', P', D', rfl, h2, h4, h5⟩
  · have hk : k < c := by omega
    have nk : ¬ c ≤ k := by omega
    obtain ⟨x, x1, x2, -, e⟩ := settle_w (c := c) (m := m) (q := q) (B := B) (g := g) (P := P') (gu := gu) (b := b) (aw := aw) (ta := ta) (ins := ins) (F := F) (O := O) (G := G) (H := H) (S := S) (D := D') (w := w) (j := k) (r := r') (by omega) (by omega) (by omega) (fun j => Nat.le_trans (h4 j) (hD j))
    have s1 := su_un (x := P' k + x) (f := P') hk
    simp (disch := omega) only [b_X1_payOut_29, St_count, St_month, St_contribution, St_box, St_given, St_purse, St_guarantor, St_bid, St_away, St_taken, St_inside, St_paidForItself, St_paidForOthers, St_gotOfPot, St_shares, St_misses, St_debt, St_count_s, St_month_s, St_contribution_s, St_box_s, St_given_s, St_purse_s, St_guarantor_s, St_bid_s, St_away_s, St_taken_s, St_inside_s, St_paidForItself_s, St_paidForOthers_s, St_gotOfPot_s, St_shares_s, St_misses_s, St_debt_s, Rd_paid, Rd_missing, Rd_pence, Rd_paid_s, Rd_missing_s, Rd_pence_s, mul8, lt_e, bd_s, gi_ok, gz2, q_add, nI_s1, nI_clamp, upd_same, nar0, nar1, c0, nf_at, nf_un, e, nI_sub, nI_lei, nk, ↓reduceIte]
    exact hJ _ _ (by omega) ⟨k + 1, _, _, _, rfl, by omega, rfl, by omega, by omega, un_le h4 (Nat.le_trans (Nat.sub_le _ _) (h4 _)), fun j hj => by rw [un_ne (by omega)]; exact h5 j hj⟩
theorem payOut {w : Nat} (hc : c ≤ 8) (hw : w < c) (ht : t ≤ 1000) (hb : ∀ j, b j ≤ 999) (hD : ∀ k, D k ≤ 20000) (hd : Db c D) : ∃ P' D', f_X1_payOut (pd, mg, nI t) (nI c, nI m, nI q, nI B, nI g, nf P, gu, nf b, aw, ta, ins, nf F, nf O, nf G, nf H, nf S, nf D) (nI w) = some ((), (nI c, nI m, nI q, nI B, nI g, nf P', gu, nf b, aw, upd ta w 1, ins, nf F, nf O, nf (un G w (t - kb t b w)), nf H, nf S, nf D')) ∧ su c P' = su c P + (t - kb t b w) ∧ (∀ k, D' k ≤ D k) ∧ (∀ j, c ≤ j → P' j = P j) := by
  have hk := kb_half t b w
  have cb := bid_x (pd := pd) (mg := mg) (pn := nI t) (mo := nI m) (co := nI q) (bo := nI B) (gv := nI g) (pu := nf P) (gu := gu) (bi := nf b) (aw := aw) (ta := ta) (ins := ins) (pf := nf F) (po := nf O) (go := nf G) (sh := nf H) (ms := nf S) (de := nf D) hw hc
  rw [cbd_kb ht hb] at cb
  obtain ⟨e, a1, r', P', D', rfl, h1, h2, h3⟩ := on_get (rest (pd := pd) (mg := mg) (t := t) (r := t - kb t b w) (m := m) (q := q) (B := B) (g := g) (P := P) (gu := gu) (b := b) (aw := aw) (ins := ins) (ta := upd ta w 1) (F := F) (O := O) (G := un G w (t - kb t b w)) (H := H) (S := S) (D := D) hc hw (by omega) hD hd)
  have a1 : lp (b_X1_payOut_29 (pd, mg, nI t) (nI w)) FU (nI (t - kb t b w), (0:Int32), (nI c, nI m, nI q, nI B, nI g, nf P, gu, nf b, aw, upd ta w 1, ins, nf F, nf O, nf (un G w (t - kb t b w)), nf H, nf S, nf D)) = _ := a1
  have s1 := su_un (x := P' w + r') (f := P') hw
  refine ⟨un P' w (P' w + r'), D', ?_, by omega, h2, fun j hj => by rw [un_ne (by omega)]; exact h3 j hj⟩
  simp (disch := omega) only [f_X1_payOut, cb, bd_s, St_count, St_month, St_contribution, St_box, St_given, St_purse, St_guarantor, St_bid, St_away, St_taken, St_inside, St_paidForItself, St_paidForOthers, St_gotOfPot, St_shares, St_misses, St_debt, St_count_s, St_month_s, St_contribution_s, St_box_s, St_given_s, St_purse_s, St_guarantor_s, St_bid_s, St_away_s, St_taken_s, St_inside_s, St_paidForItself_s, St_paidForOthers_s, St_gotOfPot_s, St_shares_s, St_misses_s, St_debt_s, Rd_paid, Rd_missing, Rd_pence, Rd_paid_s, Rd_missing_s, Rd_pence_s, mul8, lt_e, bd_s, gi_ok, gz2, q_add, nI_s1, nI_clamp, upd_same, nar0, nar1, c0, nf_at, nf_un, nI_sub, a1]
theorem endM {w : Int32} (hc : c ≤ 8) (zb : Zn c b) (za : Zi c aw) {v0 : RdV} : One (lp (b_X1_pass_47 v0 w) FU (nI 0, (nI c, nI m, nI q, nI B, nI g, nf P, gu, nf b, aw, ta, ins, nf F, nf O, nf G, nf H, nf S, nf D))) (fun e => e = (nI c, (nI c, nI m, nI q, nI B, nI g, nf P, gu, nf (fun _ => 0), fun _ => 0, ta, ins, nf F, nf O, nf G, nf H, nf S, nf D))) := by
  refine lp_one (fun n s => ∃ k b' aw', s = (nI k, (nI c, nI m, nI q, nI B, nI g, nf P, gu, nf b', aw', ta, ins, nf F, nf O, nf G, nf H, nf S, nf D)) ∧ k ≤ c ∧ n = c - k ∧ (∀ j, j < k → b' j = 0 ∧ aw' j = 0) ∧ (∀ j, c ≤ j → b' j = 0 ∧ aw' j = 0)) _ ?_ (n := c) ⟨0, b, aw, rfl, by omega, by omega, fun j h => by omega, fun j hj => ⟨zb j hj, za j hj⟩⟩ (FU_gt (by omega))
  rintro n s ⟨k, b', aw', rfl, h1, rfl, h2, h3⟩ J hJ
  by_cases h : k = c
  · subst h
    simp (disch := omega) only [b_X1_pass_47, St_count, St_month, St_contribution, St_box, St_given, St_purse, St_guarantor, St_bid, St_away, St_taken, St_inside, St_paidForItself, St_paidForOthers, St_gotOfPot, St_shares, St_misses, St_debt, St_count_s, St_month_s, St_contribution_s, St_box_s, St_given_s, St_purse_s, St_guarantor_s, St_bid_s, St_away_s, St_taken_s, St_inside_s, St_paidForItself_s, St_paidForOthers_s, St_gotOfPot_s, St_shares_s, St_misses_s, St_debt_s, Rd_paid, Rd_missing, Rd_pence, Rd_paid_s, Rd_missing_s, Rd_pence_s, mul8, lt_e, bd_s, gi_ok, gz2, q_add, nI_s1, nI_clamp, upd_same, nar0, nar1, c0, nf_at, nf_un, nI_lei, Nat.le_refl, ↓reduceIte]
    have e1 : b' = fun _ => 0 := funext fun j => by
      by_cases hj : j < k
      · exact (h2 j hj).1
      · exact (h3 j (by omega)).1
    have e2 : aw' = fun _ => 0 := funext fun j => by
      by_cases hj : j < k
      · exact (h2 j hj).2
      · exact (h3 j (by omega)).2
    rw [e1, e2]
    rfl
  · have hk : k < c := by omega
    have nk : ¬ c ≤ k := by omega
    have z : (0:Int32) = nI 0 := rfl
    have next : J (nI (k + 1), (nI c, nI m, nI q, nI B, nI g, nf P, gu, nf (un b' k 0), upd aw' k 0, ta, ins, nf F, nf O, nf G, nf H, nf S, nf D)) := hJ _ _ (by omega) ⟨k + 1, _, _, rfl, by omega, rfl, fun j hj => by
      by_cases e : j = k
      · subst e; rw [un_same, upd_same]; exact ⟨rfl, rfl⟩
      · rw [un_ne e, upd_ne e]; exact h2 j (by omega), fun j hj => by rw [un_ne (by omega), upd_ne (by omega)]; exact h3 j hj⟩
    have u : upd (nf b') k (0:Int32) = nf (un b' k 0) := nf_un b' k 0
    simp (disch := omega) only [b_X1_pass_47, St_count, St_month, St_contribution, St_box, St_given, St_purse, St_guarantor, St_bid, St_away, St_taken, St_inside, St_paidForItself, St_paidForOthers, St_gotOfPot, St_shares, St_misses, St_debt, St_count_s, St_month_s, St_contribution_s, St_box_s, St_given_s, St_purse_s, St_guarantor_s, St_bid_s, St_away_s, St_taken_s, St_inside_s, St_paidForItself_s, St_paidForOthers_s, St_gotOfPot_s, St_shares_s, St_misses_s, St_debt_s, Rd_paid, Rd_missing, Rd_pence, Rd_paid_s, Rd_missing_s, Rd_pence_s, lt_e, gi_ok, nI_s1, nI_clamp, nar0, u, nI_lei, nk, ↓reduceIte]
    exact next
end OUT
