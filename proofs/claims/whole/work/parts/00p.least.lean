/-! the least bid -/
theorem tkS_congr {can can' : Nat → Bool} {cb cb' : Nat → Int32} {p c : Nat} (hc : 0 < c) (hc8 : c ≤ 8) (h1 : ∀ i, i < c → can i = can' i) (h2 : ∀ i, i < c → cb i = cb' i) : ∀ k, tkS can cb p c k = tkS can' cb' p c k
  | 0 => rfl
  | k + 1 => by
    have hm : (p + k) % c < c := Nat.mod_lt _ hc
    have ih := tkS_congr hc hc8 h1 h2 (p := p) k
    unfold tkS tkB
    rw [← h1 _ hm, ← ih]
    by_cases q : can ((p + k) % c) = true
    · rw [if_pos q, if_pos q]
      by_cases q2 : tkS can cb p c k = (-99999:Int32)
      · rw [if_pos q2, if_pos q2]
      · rw [if_neg q2, if_neg q2]
        rcases tkS_is (can := can) (cb := cb) (p := p) hc k with w | ⟨j, hj, -, w⟩
        · exact absurd w q2
        · rw [w, nI_clamp (by omega), h2 _ hm, h2 _ hj]
    · rw [if_neg q, if_neg q]
theorem tk_max {can : Nat → Bool} {cb : Nat → Int32} {val : Nat → Nat} {p c : Nat} (hc : 0 < c) (hc8 : c ≤ 8) (hv : ∀ i, i < c → cb i = nI (val i) ∧ val i < 2147483648) : ∀ k, (tkS can cb p c k = (-99999:Int32) ∧ ∀ k', k' < k → can ((p + k') % c) = false) ∨ ∃ b, b < c ∧ can b = true ∧ tkS can cb p c k = nI b ∧ ∀ k', k' < k → can ((p + k') % c) = true → val ((p + k') % c) ≤ val b
  | 0 => Or.inl ⟨rfl, fun k' h => by omega⟩
  | k + 1 => by
    have hm : (p + k) % c < c := Nat.mod_lt _ hc
    have ih := tk_max (can := can) (cb := cb) (p := p) hc hc8 hv k
    unfold tkS tkB
    cases q : can ((p + k) % c) with
    | false =>
      rw [if_neg (by decide)]
      rcases ih with ⟨w1, w2⟩ | ⟨b, w1, w2, w3, w4⟩
      · refine Or.inl ⟨w1, fun k' h => ?_⟩
        by_cases e : k' = k
        · subst e; exact q
        · exact w2 k' (by omega)
      · refine Or.inr ⟨b, w1, w2, w3, fun k' h hcn => ?_⟩
        by_cases e : k' = k
        · subst e; rw [q] at hcn; cases hcn
        · exact w4 k' (by omega) hcn
    | true =>
      rw [if_pos rfl]
      rcases ih with ⟨w1, w2⟩ | ⟨b, w1, w2, w3, w4⟩
      · rw [if_pos w1]
        refine Or.inr ⟨_, hm, q, rfl, fun k' h hcn => ?_⟩
        by_cases e : k' = k
        · subst e; exact Nat.le_refl _
        · rw [w2 k' (by omega)] at hcn; cases hcn
      · rw [w3, if_neg (fun h => (nI_neg (by omega)).mp h), nI_clamp (by omega), (hv _ hm).1, (hv _ w1).1]
        by_cases e : val ((p + k) % c) ≤ val b
        · rw [if_pos ((nI_lei (hv _ hm).2 (hv _ w1).2).mpr e)]
          refine Or.inr ⟨b, w1, w2, rfl, fun k' h hcn => ?_⟩
          by_cases e' : k' = k
          · subst e'; exact e
          · exact w4 k' (by omega) hcn
        · rw [if_neg (fun h => e ((nI_lei (hv _ hm).2 (hv _ w1).2).mp h))]
          refine Or.inr ⟨_, hm, q, rfl, fun k' h hcn => ?_⟩
          by_cases e' : k' = k
          · subst e'; exact Nat.le_refl _
          · exact Nat.le_trans (w4 k' (by omega) hcn) (by omega)
theorem all_seen {p c j : Nat} (hp : p < c) (hj : j < c) : ∃ k', k' < c ∧ (p + k') % c = j := by
  by_cases h : p ≤ j
  · refine ⟨j - p, by omega, ?_⟩
    rw [show p + (j - p) = j by omega]
    exact Nat.mod_eq_of_lt hj
  · refine ⟨j + c - p, by omega, ?_⟩
    rw [show p + (j + c - p) = j + c by omega, Nat.add_mod_right]
    exact Nat.mod_eq_of_lt hj
theorem tk_no {can : Nat → Bool} {cb : Nat → Int32} {val : Nat → Nat} {p c a j : Nat} (hp : p < c) (hc8 : c ≤ 8) (hv : ∀ i, i < c → cb i = nI (val i) ∧ val i < 2147483648) (ha : a < c) (hj : j < c) (hcj : can j = true) (hlt : val a < val j) : ¬ tkS can cb p c c = nI a := by
  intro h
  obtain ⟨k', hk, hkj⟩ := all_seen hp hj
  rcases tk_max (can := can) (cb := cb) (p := p) (by omega) hc8 hv c with ⟨w1, w2⟩ | ⟨b, w1, w2, w3, w4⟩
  · have := w2 k' hk
    rw [hkj, hcj] at this
    cases this
  · have hb : b = a := (nI_inj (by omega) (by omega)).mp (w3.symm.trans h)
    subst hb
    have := w4 k' hk (by rw [hkj]; exact hcj)
    rw [hkj] at this
    omega
theorem tk_win {can : Nat → Bool} {cb : Nat → Int32} {val : Nat → Nat} {p c a : Nat} (hp : p < c) (hc8 : c ≤ 8) (hv : ∀ i, i < c → cb i = nI (val i) ∧ val i < 2147483648) (ha : a < c) (hca : can a = true) (hw : ∀ j, j < c → j ≠ a → can j = true → val j < val a) : tkS can cb p c c = nI a := by
  obtain ⟨k', hk, hka⟩ := all_seen hp ha
  rcases tk_max (can := can) (cb := cb) (p := p) (by omega) hc8 hv c with ⟨w1, w2⟩ | ⟨b, w1, w2, w3, w4⟩
  · have := w2 k' hk
    rw [hka, hca] at this
    cases this
  · by_cases e : b = a
    · rw [w3, e]
    · have h1 := hw b w1 e w2
      have h2 := w4 k' hk (by rw [hka]; exact hca)
      rw [hka] at h2
      omega
/-- what a bid counts for, as a number -/
def bvl (t : Nat) (b : Int32) : Nat := if t / 2 < b.toNatClampNeg then t / 2 else b.toNatClampNeg
theorem cbd_bvl {t b : Nat} (ht : t ≤ 800) (hb : b ≤ 1000) : cbd (nI t) (nI b) = nI (bvl t (nI b)) := by
  unfold cbd bvl
  have e : nI t / (2:Int32) = nI (t / 2) := nI_div (b := 2) (by omega) (by omega)
  rw [e, nI_clamp (by omega)]
  by_cases h : t / 2 < b
  · rw [if_pos h, if_pos ((nI_lti (by omega) (by omega)).mpr h)]
  · rw [if_neg h, if_neg (fun q => h ((nI_lti (by omega) (by omega)).mp q))]
theorem bvl_le {t : Nat} {b : Int32} : bvl t b ≤ t / 2 := by
  unfold bvl
  split <;> omega
section LEAST
variable {c : Nat} {mo co bo gv : Int32} {pu gu bi aw ta ins pf po go sh ms de : Nat → Int32}
variable {th : Int32} {z past : Nat → Int32} {pm : Int32} {sl sv sp tx : Nat → Int32} {ty : Int32} {hp mi : Nat → Int32} {pot : Int32} {rd : Nat → Int32} {spt wr : Int32}
variable {pd mg : Nat → Int32} {m : Nat}
theorem bvl_all {t : Nat} (ht : t ≤ 800) {b2 : Nat → Int32} (hb : ∀ i, i < c → ∃ k, k ≤ 1000 ∧ b2 i = nI k) : ∀ i, i < c → (fun i => cbd (nI t) (b2 i)) i = nI (bvl t (b2 i)) ∧ bvl t (b2 i) < 2147483648 := fun i hi => by
  obtain ⟨k, h1, h2⟩ := hb i hi
  have hl := bvl_le (t := t) (b := b2 i)
  refine ⟨?_, by omega⟩
  show cbd (nI t) (b2 i) = _
  rw [h2]
  exact cbd_bvl ht h1
/-- what comes in doesn't depend on the bids -/
theorem pay_free (hc : c ≤ 8) (hi : Bo c ins) (ha : Bo c aw) (hg : Gu c gu) {q B B2 : Nat} (hq : co = nI q) (hq5 : q ≤ 50) (hB : Rg c B pf) (hB2 : Rg c B2 po) {b0 b1 : Nat → Int32} {pn : Int32} {r0 r1 : RdV} {v0 v1 : StV} (e0 : f_X1_payIn (pd, mg, pn) (nI c, mo, co, bo, gv, pu, gu, b0, aw, ta, ins, pf, po, go, sh, ms, de) = some ((), (r0, v0))) (e1 : f_X1_payIn (pd, mg, pn) (nI c, mo, co, bo, gv, pu, gu, b1, aw, ta, ins, pf, po, go, sh, ms, de) = some ((), (r1, v1))) : Rd_pence r0 = Rd_pence r1 ∧ ∀ j, j < c → Rd_missing r0 j = Rd_missing r1 j := by
  obtain ⟨pd', mg', hp', mi1, mi', t1, t2, pu1, pf', pu', po', ms', de', f1, f2, f3, h1, -, -, h4⟩ := pays (th := 0) (past := fun _ => 0) (pm := 0) (sl := fun _ => 0) (sv := fun _ => 0) (sp := fun _ => 0) (tx := fun _ => 0) (ty := 0) (hp := fun _ => 0) (mi := fun _ => 0) (pot := 0) (rd := fun _ => 0) (spt := 0) (wr := 0) (pd := pd) (mg := mg) (pn := pn) (mo := mo) (bo := bo) (gv := gv) (pu := pu) (bi := b0) (bx := b0) (ta := ta) (go := go) (sh := sh) (ms := ms) (de := de) hc hi ha hg hq hq5 hB hB2
  obtain ⟨pd2, mg2, hp2, mi3, mi4, t3, t4, pu2, pf2, pu3, po3, ms3, de3, g1, g2, g3, h5, -, -, h6⟩ := pays (th := 0) (past := fun _ => 0) (pm := 0) (sl := fun _ => 0) (sv := fun _ => 0) (sp := fun _ => 0) (tx := fun _ => 0) (ty := 0) (hp := fun _ => 0) (mi := fun _ => 0) (pot := 0) (rd := fun _ => 0) (spt := 0) (wr := 0) (pd := pd) (mg := mg) (pn := pn) (mo := mo) (bo := bo) (gv := gv) (pu := pu) (bi := b0) (bx := b1) (ta := ta) (go := go) (sh := sh) (ms := ms) (de := de) hc hi ha hg hq hq5 hB hB2
  have hr0 : r0 = (pd', mg', nI (t1 + t2)) := by
    have := Option.some.inj (e0.symm.trans f1)
    exact congrArg (fun x => x.2.1) this
  have hr1 : r1 = (pd2, mg2, nI (t3 + t4)) := by
    have := Option.some.inj (e1.symm.trans g1)
    exact congrArg (fun x => x.2.1) this
  have hA := Option.some.inj (f2.symm.trans g2)
  have hA1 : nI t1 = nI t3 := congrArg Prod.fst hA
  have hA2 := congrArg Prod.snd hA
  dsimp only at hA2
  rw [hA2] at f3
  have hC := Option.some.inj (f3.symm.trans g3)
  have hC1 : nI t2 = nI t4 := congrArg Prod.fst hC
  have hC2 : mi' = mi4 := congrArg (fun x => Md_misses x.2) hC
  have t13 : t1 = t3 := (nI_inj (by omega) (by omega)).mp hA1
  have t24 : t2 = t4 := (nI_inj (by omega) (by omega)).mp hC1
  subst hr0; subst hr1; subst t13; subst t24
  refine ⟨rfl, fun j hj => ?_⟩
  show mg' j = mg2 j
  rw [← (h4 j hj).1, ← (h6 j hj).1, hC2]
/-- the greatest bid of the others -/
theorem great (hc : c ≤ 8) (hi : Bo c ins) (ht : Bo c ta) (hm : ∀ j, j < c → (mg j = 0 ∨ mg j = 1)) (hb : Rg c 999 bi) {t a : Nat} (ht8 : t ≤ 800) (ha : a < c) : ∃ G, G ≤ t / 2 ∧ f_X1_greatestBidBeside (pd, mg, nI t) (nI c, mo, co, bo, gv, pu, gu, bi, aw, ta, ins, pf, po, go, sh, ms, de) (nI a) = some (nI G, ()) ∧ (∀ j, j < c → j ≠ a → cnT ins mg ta j = true → bvl t (bi j) ≤ G) ∧ (G = 0 ∨ ∃ j, j < c ∧ j ≠ a ∧ cnT ins mg ta j = true ∧ bvl t (bi j) = G) := by
  have L : One (lp (b_X1_greatestBidBeside_5 (pd, mg, nI t) (nI c, mo, co, bo, gv, pu, gu, bi, aw, ta, ins, pf, po, go, sh, ms, de) (nI a)) FU ((0:Int32), (0:Int32))) (fun e => ∃ G, G ≤ t / 2 ∧ e = (nI G, nI c) ∧ (∀ j, j < c → j ≠ a → cnT ins mg ta j = true → bvl t (bi j) ≤ G) ∧ (G = 0 ∨ ∃ j, j < c ∧ j ≠ a ∧ cnT ins mg ta j = true ∧ bvl t (bi j) = G)) := by
    refine lp_one (fun n s => ∃ k G, s = (nI G, nI k) ∧ k ≤ c ∧ n = c - k ∧ G ≤ t / 2 ∧ (∀ j, j < k → j ≠ a → cnT ins mg ta j = true → bvl t (bi j) ≤ G) ∧ (G = 0 ∨ ∃ j, j < c ∧ j ≠ a ∧ cnT ins mg ta j = true ∧ bvl t (bi j) = G)) _ ?_ (n := c) ⟨0, 0, rfl, by omega, by omega, by omega, fun j h => by omega, Or.inl rfl⟩ (FU_gt (by omega))
    rintro n s ⟨k, G, rfl, h1, rfl, h2, h3, h4⟩ J hJ
    by_cases h : k = c
    · subst h
      simp (disch := omega) only [b_X1_greatestBidBeside_5, St_count, St_month, St_contribution, St_box, St_given, St_purse, St_guarantor, St_bid, St_away, St_taken, St_inside, St_paidForItself, St_paidForOthers, St_gotOfPot, St_shares, St_misses, St_debt, St_count_s, St_month_s, St_contribution_s, St_box_s, St_given_s, St_purse_s, St_guarantor_s, St_bid_s, St_away_s, St_taken_s, St_inside_s, St_paidForItself_s, St_paidForOthers_s, St_gotOfPot_s, St_shares_s, St_misses_s, St_debt_s, Rd_paid, Rd_missing, Rd_pence, Rd_paid_s, Rd_missing_s, Rd_pence_s, Md_thrown, Md_z, Md_past, Md_pastMany, Md_slots, Md_isSaved, Md_spare, Md_text, Md_typed, Md_hasPaid, Md_misses, Md_potNow, Md_read, Md_spot, Md_wrong, Md_thrown_s, Md_z_s, Md_past_s, Md_pastMany_s, Md_slots_s, Md_isSaved_s, Md_spare_s, Md_text_s, Md_typed_s, Md_hasPaid_s, Md_misses_s, Md_potNow_s, Md_read_s, Md_spot_s, Md_wrong_s, nI_lei, Nat.le_refl, ↓reduceIte]
      exact ⟨G, h2, rfl, h3, h4⟩
    · have hk : k < c := by omega
      have nk : ¬ c ≤ k := by omega
      have skip : (cnT ins mg ta k = true → k = a) → J (nI G, nI (k + 1)) := fun hs => hJ _ _ (by omega) ⟨k + 1, G, rfl, by omega, rfl, h2, fun j hj hja hcj => by
        by_cases e : j = k
        · subst e; exact absurd (hs hcj) hja
        · exact h3 j (by omega) hja hcj, h4⟩
      by_cases hka : k = a
      · subst hka
        simp (disch := omega) only [b_X1_greatestBidBeside_5, St_count, St_month, St_contribution, St_box, St_given, St_purse, St_guarantor, St_bid, St_away, St_taken, St_inside, St_paidForItself, St_paidForOthers, St_gotOfPot, St_shares, St_misses, St_debt, St_count_s, St_month_s, St_contribution_s, St_box_s, St_given_s, St_purse_s, St_guarantor_s, St_bid_s, St_away_s, St_taken_s, St_inside_s, St_paidForItself_s, St_paidForOthers_s, St_gotOfPot_s, St_shares_s, St_misses_s, St_debt_s, Rd_paid, Rd_missing, Rd_pence, Rd_paid_s, Rd_missing_s, Rd_pence_s, Md_thrown, Md_z, Md_past, Md_pastMany, Md_slots, Md_isSaved, Md_spare, Md_text, Md_typed, Md_hasPaid, Md_misses, Md_potNow, Md_read, Md_spot, Md_wrong, Md_thrown_s, Md_z_s, Md_past_s, Md_pastMany_s, Md_slots_s, Md_isSaved_s, Md_spare_s, Md_text_s, Md_typed_s, Md_hasPaid_s, Md_misses_s, Md_potNow_s, Md_read_s, Md_spot_s, Md_wrong_s, lt_e, nI_s1, nI_lei, nk, ↓reduceIte]
        exact skip (fun _ => rfl)
      · have hne : ¬ nI k = nI a := fun q => hka ((nI_inj (by omega) (by omega)).mp q)
        rcases hi k hk with e1 | e1
        · simp (disch := omega) only [b_X1_greatestBidBeside_5, can_x hk hc, St_count, St_month, St_contribution, St_box, St_given, St_purse, St_guarantor, St_bid, St_away, St_taken, St_inside, St_paidForItself, St_paidForOthers, St_gotOfPot, St_shares, St_misses, St_debt, St_count_s, St_month_s, St_contribution_s, St_box_s, St_given_s, St_purse_s, St_guarantor_s, St_bid_s, St_away_s, St_taken_s, St_inside_s, St_paidForItself_s, St_paidForOthers_s, St_gotOfPot_s, St_shares_s, St_misses_s, St_debt_s, Rd_paid, Rd_missing, Rd_pence, Rd_paid_s, Rd_missing_s, Rd_pence_s, Md_thrown, Md_z, Md_past, Md_pastMany, Md_slots, Md_isSaved, Md_spare, Md_text, Md_typed, Md_hasPaid, Md_misses, Md_potNow, Md_read, Md_spot, Md_wrong, Md_thrown_s, Md_z_s, Md_past_s, Md_pastMany_s, Md_slots_s, Md_isSaved_s, Md_spare_s, Md_text_s, Md_typed_s, Md_hasPaid_s, Md_misses_s, Md_potNow_s, Md_read_s, Md_spot_s, Md_wrong_s, bd_s, lt_e, nI_s1, nI_lei, nk, hne, e1, ↓reduceIte]
          exact skip (fun q => by rw [cnT_no (Or.inl e1)] at q; cases q)
        · rcases hm k hk with e2 | e2
          · rcases ht k hk with e3 | e3
            · obtain ⟨b, hb1, hb2⟩ := hb k hk
              have hcb : cbd (nI t) (bi k) = nI (bvl t (bi k)) := by rw [hb2]; exact cbd_bvl ht8 (by omega)
              have hl := bvl_le (t := t) (b := bi k)
              have hcan := cnT_yes e1 e2 e3
              simp (disch := omega) only [b_X1_greatestBidBeside_5, can_x hk hc, bid_x hk hc, hcb, St_count, St_month, St_contribution, St_box, St_given, St_purse, St_guarantor, St_bid, St_away, St_taken, St_inside, St_paidForItself, St_paidForOthers, St_gotOfPot, St_shares, St_misses, St_debt, St_count_s, St_month_s, St_contribution_s, St_box_s, St_given_s, St_purse_s, St_guarantor_s, St_bid_s, St_away_s, St_taken_s, St_inside_s, St_paidForItself_s, St_paidForOthers_s, St_gotOfPot_s, St_shares_s, St_misses_s, St_debt_s, Rd_paid, Rd_missing, Rd_pence, Rd_paid_s, Rd_missing_s, Rd_pence_s, Md_thrown, Md_z, Md_past, Md_pastMany, Md_slots, Md_isSaved, Md_spare, Md_text, Md_typed, Md_hasPaid, Md_misses, Md_potNow, Md_read, Md_spot, Md_wrong, Md_thrown_s, Md_z_s, Md_past_s, Md_pastMany_s, Md_slots_s, Md_isSaved_s, Md_spare_s, Md_text_s, Md_typed_s, Md_hasPaid_s, Md_misses_s, Md_potNow_s, Md_read_s, Md_spot_s, Md_wrong_s, bd_s, lt_e, nI_s1, nI_lei, nI_lti, nk, hne, e1, e2, e3, o_ne, ↓reduceIte]
              by_cases hG : G < bvl t (bi k)
              · rw [if_pos hG]
                refine hJ _ _ (by omega) ⟨k + 1, bvl t (bi k), rfl, by omega, rfl, hl, fun j hj hja hcj => ?_, Or.inr ⟨k, hk, hka, hcan, rfl⟩⟩
                by_cases e : j = k
                · subst e; exact Nat.le_refl _
                · exact Nat.le_trans (h3 j (by omega) hja hcj) (by omega)
              · rw [if_neg hG]
                refine hJ _ _ (by omega) ⟨k + 1, G, rfl, by omega, rfl, h2, fun j hj hja hcj => ?_, h4⟩
                by_cases e : j = k
                · subst e; omega
                · exact h3 j (by omega) hja hcj
            · simp (disch := omega) only [b_X1_greatestBidBeside_5, can_x hk hc, St_count, St_month, St_contribution, St_box, St_given, St_purse, St_guarantor, St_bid, St_away, St_taken, St_inside, St_paidForItself, St_paidForOthers, St_gotOfPot, St_shares, St_misses, St_debt, St_count_s, St_month_s, St_contribution_s, St_box_s, St_given_s, St_purse_s, St_guarantor_s, St_bid_s, St_away_s, St_taken_s, St_inside_s, St_paidForItself_s, St_paidForOthers_s, St_gotOfPot_s, St_shares_s, St_misses_s, St_debt_s, Rd_paid, Rd_missing, Rd_pence, Rd_paid_s, Rd_missing_s, Rd_pence_s, Md_thrown, Md_z, Md_past, Md_pastMany, Md_slots, Md_isSaved, Md_spare, Md_text, Md_typed, Md_hasPaid, Md_misses, Md_potNow, Md_read, Md_spot, Md_wrong, Md_thrown_s, Md_z_s, Md_past_s, Md_pastMany_s, Md_slots_s, Md_isSaved_s, Md_spare_s, Md_text_s, Md_typed_s, Md_hasPaid_s, Md_misses_s, Md_potNow_s, Md_read_s, Md_spot_s, Md_wrong_s, bd_s, lt_e, nI_s1, nI_lei, nk, hne, e1, e2, e3, o_ne, ↓reduceIte]
              exact skip (fun q => by rw [cnT_no (Or.inr (Or.inr e3))] at q; cases q)
          · simp (disch := omega) only [b_X1_greatestBidBeside_5, can_x hk hc, St_count, St_month, St_contribution, St_box, St_given, St_purse, St_guarantor, St_bid, St_away, St_taken, St_inside, St_paidForItself, St_paidForOthers, St_gotOfPot, St_shares, St_misses, St_debt, St_count_s, St_month_s, St_contribution_s, St_box_s, St_given_s, St_purse_s, St_guarantor_s, St_bid_s, St_away_s, St_taken_s, St_inside_s, St_paidForItself_s, St_paidForOthers_s, St_gotOfPot_s, St_shares_s, St_misses_s, St_debt_s, Rd_paid, Rd_missing, Rd_pence, Rd_paid_s, Rd_missing_s, Rd_pence_s, Md_thrown, Md_z, Md_past, Md_pastMany, Md_slots, Md_isSaved, Md_spare, Md_text, Md_typed, Md_hasPaid, Md_misses, Md_potNow, Md_read, Md_spot, Md_wrong, Md_thrown_s, Md_z_s, Md_past_s, Md_pastMany_s, Md_slots_s, Md_isSaved_s, Md_spare_s, Md_text_s, Md_typed_s, Md_hasPaid_s, Md_misses_s, Md_potNow_s, Md_read_s, Md_spot_s, Md_wrong_s, bd_s, lt_e, nI_s1, nI_lei, nk, hne, e1, e2, o_ne, ↓reduceIte]
            exact skip (fun q => by rw [cnT_no (Or.inr (Or.inl e2))] at q; cases q)
  obtain ⟨e, h, G, h1, rfl, h3, h4⟩ := on_get L
  exact ⟨G, h1, by simp only [f_X1_greatestBidBeside, h, bd_s], h3, h4⟩
/-- the reference tries every bid -/
theorem every (g : Gs c m (nI c, mo, co, bo, gv, pu, gu, bi, aw, ta, ins, pf, po, go, sh, ms, de) z) (hm : m ≤ 99) (hs : ∀ k, k < 157 → sp k = z k) {a : Nat} (ha : a < c) {W : Nat → Int32} (hW : ∀ n, n ≤ 999 → ∀ (hp mi : Nat → Int32) (pot : Int32), ∃ z' hp' mi' pot', f_X6_goMonth (th, upd z (21 + a) (nI n), past, pm, sl, sv, sp, tx, ty, hp, mi, pot, rd, spt, wr) = some (W n, (th, z', past, pm, sl, sv, sp, tx, ty, hp', mi', pot', rd, spt, wr)) ∧ ∀ k, 157 ≤ k → z' k = z k) : One (lp (b_X6_leastBid_35 (nI a)) FU ((-99999:Int32), (0:Int32), (th, z, past, pm, sl, sv, sp, tx, ty, hp, mi, pot, rd, spt, wr))) (fun e => ∃ f n' hp' mi' pot', e = (f, nI n', (th, z, past, pm, sl, sv, sp, tx, ty, hp', mi', pot', rd, spt, wr)) ∧ ((f = (-99999:Int32) ∧ ∀ n, n ≤ 999 → ¬ W n = nI a) ∨ ∃ n, n ≤ 999 ∧ f = nI n ∧ W n = nI a ∧ ∀ k, k < n → ¬ W k = nI a)) := by
  have hc := g.cnt.1
  have l999 : ∀ {n : Nat}, n < 2147483648 → ((999:Int32) < nI n ↔ 999 < n) := fun h => nI_lti (a := 999) (by decide) h
  refine lp_one (fun w s => ∃ n f hp' mi' pot', s = (f, nI n, (th, z, past, pm, sl, sv, sp, tx, ty, hp', mi', pot', rd, spt, wr)) ∧ n ≤ 1000 ∧ w = (if f = (-99999:Int32) then 1002 - n else 0) ∧ ((f = (-99999:Int32) ∧ ∀ k, k < n → ¬ W k = nI a) ∨ ∃ q, q ≤ 999 ∧ f = nI q ∧ W q = nI a ∧ ∀ k, k < q → ¬ W k = nI a)) _ ?_ (n := 1002) ⟨0, (-99999:Int32), hp, mi, pot, rfl, by omega, rfl, Or.inl ⟨rfl, fun k h => by omega⟩⟩ (FU_gt (by omega))
  rintro w s ⟨n, f, hp', mi', pot', rfl, h1, rfl, h2⟩ J hJ
  rcases h2 with ⟨rfl, h2⟩ | ⟨q, hq1, rfl, hq2, hq3⟩
  · by_cases h : 999 < n
    · simp (disch := omega) only [b_X6_leastBid_35, l999, h, ↓reduceIte]
      exact ⟨_, n, hp', mi', pot', rfl, Or.inl ⟨rfl, fun k hk => h2 k (by omega)⟩⟩
    · obtain ⟨z2, hp2, mi2, pot2, e1, e2⟩ := hW n (by omega) hp' mi' pot'
      have e3 := back_f (th := th) (z := z2) (past := past) (pm := pm) (sl := sl) (sv := sv) (sp := sp) (tx := tx) (ty := ty) (hp := hp2) (mi := mi2) (pot := pot2) (rd := rd) (spt := spt) (wr := wr) hs e2
      by_cases hw : W n = nI a
      · simp (disch := omega) only [b_X6_leastBid_35, l999, h, St_count, St_month, St_contribution, St_box, St_given, St_purse, St_guarantor, St_bid, St_away, St_taken, St_inside, St_paidForItself, St_paidForOthers, St_gotOfPot, St_shares, St_misses, St_debt, St_count_s, St_month_s, St_contribution_s, St_box_s, St_given_s, St_purse_s, St_guarantor_s, St_bid_s, St_away_s, St_taken_s, St_inside_s, St_paidForItself_s, St_paidForOthers_s, St_gotOfPot_s, St_shares_s, St_misses_s, St_debt_s, Rd_paid, Rd_missing, Rd_pence, Rd_paid_s, Rd_missing_s, Rd_pence_s, Md_thrown, Md_z, Md_past, Md_pastMany, Md_slots, Md_isSaved, Md_spare, Md_text, Md_typed, Md_hasPaid, Md_misses, Md_potNow, Md_read, Md_spot, Md_wrong, Md_thrown_s, Md_z_s, Md_past_s, Md_pastMany_s, Md_slots_s, Md_isSaved_s, Md_spare_s, Md_text_s, Md_typed_s, Md_hasPaid_s, Md_misses_s, Md_potNow_s, Md_read_s, Md_spot_s, Md_wrong_s, mul8, mul8r, lt_e, bd_s, gi_ok, gz2, gz8, gz40, q_add, nI_s1, nI_clamp, upd_same, nar0, nar1, c0, c1, c2, c3, c4, g0_157, g1_157, g2_157, g3_157, g4_157, g0_1, a5, a13, a21, a29, a37, a45, a53, a61, a69, a77, a85, a93, e1, e3, hw, ↓reduceIte]
        refine hJ 0 _ ?_ ⟨n + 1, nI n, hp2, mi2, pot2, rfl, by omega, ?_, Or.inr ⟨n, by omega, rfl, hw, h2⟩⟩
        · rw [if_pos rfl]; omega
        · rw [if_neg (fun q => (nI_neg (by omega)).mp q)]
      · simp (disch := omega) only [b_X6_leastBid_35, l999, h, St_count, St_month, St_contribution, St_box, St_given, St_purse, St_guarantor, St_bid, St_away, St_taken, St_inside, St_paidForItself, St_paidForOthers, St_gotOfPot, St_shares, St_misses, St_debt, St_count_s, St_month_s, St_contribution_s, St_box_s, St_given_s, St_purse_s, St_guarantor_s, St_bid_s, St_away_s, St_taken_s, St_inside_s, St_paidForItself_s, St_paidForOthers_s, St_gotOfPot_s, St_shares_s, St_misses_s, St_debt_s, Rd_paid, Rd_missing, Rd_pence, Rd_paid_s, Rd_missing_s, Rd_pence_s, Md_thrown, Md_z, Md_past, Md_pastMany, Md_slots, Md_isSaved, Md_spare, Md_text, Md_typed, Md_hasPaid, Md_misses, Md_potNow, Md_read, Md_spot, Md_wrong, Md_thrown_s, Md_z_s, Md_past_s, Md_pastMany_s, Md_slots_s, Md_isSaved_s, Md_spare_s, Md_text_s, Md_typed_s, Md_hasPaid_s, Md_misses_s, Md_potNow_s, Md_read_s, Md_spot_s, Md_wrong_s, mul8, mul8r, lt_e, bd_s, gi_ok, gz2, gz8, gz40, q_add, nI_s1, nI_clamp, upd_same, nar0, nar1, c0, c1, c2, c3, c4, g0_157, g1_157, g2_157, g3_157, g4_157, g0_1, a5, a13, a21, a29, a37, a45, a53, a61, a69, a77, a85, a93, e1, e3, hw, ↓reduceIte]
        refine hJ (1002 - (n + 1)) _ ?_ ⟨n + 1, (-99999:Int32), hp2, mi2, pot2, rfl, by omega, ?_, Or.inl ⟨rfl, fun k hk => ?_⟩⟩
        · rw [if_pos rfl]; omega
        · rw [if_pos rfl]
        · by_cases e : k = n
          · subst e; exact hw
          · exact h2 k (by omega)
  · by_cases h : 999 < n
    · simp (disch := omega) only [b_X6_leastBid_35, l999, h, ↓reduceIte]
      exact ⟨_, n, hp', mi', pot', rfl, Or.inr ⟨q, hq1, rfl, hq2, hq3⟩⟩
    · simp (disch := omega) only [b_X6_leastBid_35, l999, h, nI_neg, St_count, St_month, St_contribution, St_box, St_given, St_purse, St_guarantor, St_bid, St_away, St_taken, St_inside, St_paidForItself, St_paidForOthers, St_gotOfPot, St_shares, St_misses, St_debt, St_count_s, St_month_s, St_contribution_s, St_box_s, St_given_s, St_purse_s, St_guarantor_s, St_bid_s, St_away_s, St_taken_s, St_inside_s, St_paidForItself_s, St_paidForOthers_s, St_gotOfPot_s, St_shares_s, St_misses_s, St_debt_s, Rd_paid, Rd_missing, Rd_pence, Rd_paid_s, Rd_missing_s, Rd_pence_s, Md_thrown, Md_z, Md_past, Md_pastMany, Md_slots, Md_isSaved, Md_spare, Md_text, Md_typed, Md_hasPaid, Md_misses, Md_potNow, Md_read, Md_spot, Md_wrong, Md_thrown_s, Md_z_s, Md_past_s, Md_pastMany_s, Md_slots_s, Md_isSaved_s, Md_spare_s, Md_text_s, Md_typed_s, Md_hasPaid_s, Md_misses_s, Md_potNow_s, Md_read_s, Md_spot_s, Md_wrong_s, ↓reduceIte]
      exact ⟨_, n, hp', mi', pot', rfl, Or.inr ⟨q, hq1, rfl, hq2, hq3⟩⟩
theorem bvl_own {t n : Nat} (h : n ≤ 1000) : bvl t (nI n) = if t / 2 < n then t / 2 else n := by
  unfold bvl
  rw [nI_clamp (by omega)]
theorem cnT_ext {mg2 : Nat → Int32} {i : Nat} (h : mg i = mg2 i) : cnT ins mg ta i = cnT ins mg2 ta i := by
  unfold cnT
  rw [h]
theorem least_loop (hc : c ≤ 8) (hi : Bo c ins) (ht : Bo c ta) (hm : ∀ j, j < c → (mg j = 0 ∨ mg j = 1)) (hmo : mo = nI m) (hml : m ≤ 2000) {T a G : Nat} (ha : a < c) (hG : G ≤ 1000) {w0 : StV} {W : Nat → Int32} (hW : ∀ n, W n = tkS (cnT ins mg ta) (fun i => cbd (nI T) (upd bi a (nI n) i)) (m % c) c c) : ∃ e, lp (b_X5_leastBid_60 w0 (pd, mg, nI T) (nI a) (nI G)) FU (nI G, (nI c, mo, co, bo, gv, pu, gu, bi, aw, ta, ins, pf, po, go, sh, ms, de)) = some e ∧ ((W G = nI a ∧ ∃ v', e = .inr (nI G, v', (pd, mg, nI T))) ∨ (¬ W G = nI a ∧ W (G + 1) = nI a ∧ ∃ v', e = .inr (nI (G + 1), v', (pd, mg, nI T))) ∨ (¬ W G = nI a ∧ ¬ W (G + 1) = nI a ∧ ∃ n' v', e = .inl (n', v'))) := by
  have st : ∀ (n : Nat) (bi0 : Nat → Int32), n ≤ G + 1 → upd bi0 a (nI n) = upd bi a (nI n) → b_X5_leastBid_60 w0 (pd, mg, nI T) (nI a) (nI G) (nI n, (nI c, mo, co, bo, gv, pu, gu, bi0, aw, ta, ins, pf, po, go, sh, ms, de)) = (if W n = nI a then some (.inr (.inr (nI n, ((nI c, mo, co, bo, gv, pu, gu, upd bi a (nI n), aw, ta, ins, pf, po, go, sh, ms, de), (pd, mg, nI T))))) else some (.inl (nI (n + 1), (nI c, mo, co, bo, gv, pu, gu, upd bi a (nI n), aw, ta, ins, pf, po, go, sh, ms, de)))) := by
    intro n bi0 hn hu
    have e1 := taker_x (pd := pd) (pn := nI T) (co := co) (bo := bo) (gv := gv) (pu := pu) (gu := gu) (bi := upd bi a (nI n)) (aw := aw) (pf := pf) (po := po) (go := go) (sh := sh) (ms := ms) (de := de) hc hi ht hm hmo hml
    rw [← hW n] at e1
    have n1 : ¬ G + 1 < n := by omega
    simp (disch := omega) only [b_X5_leastBid_60, St_count, St_month, St_contribution, St_box, St_given, St_purse, St_guarantor, St_bid, St_away, St_taken, St_inside, St_paidForItself, St_paidForOthers, St_gotOfPot, St_shares, St_misses, St_debt, St_count_s, St_month_s, St_contribution_s, St_box_s, St_given_s, St_purse_s, St_guarantor_s, St_bid_s, St_away_s, St_taken_s, St_inside_s, St_paidForItself_s, St_paidForOthers_s, St_gotOfPot_s, St_shares_s, St_misses_s, St_debt_s, Rd_paid, Rd_missing, Rd_pence, Rd_paid_s, Rd_missing_s, Rd_pence_s, Md_thrown, Md_z, Md_past, Md_pastMany, Md_slots, Md_isSaved, Md_spare, Md_text, Md_typed, Md_hasPaid, Md_misses, Md_potNow, Md_read, Md_spot, Md_wrong, Md_thrown_s, Md_z_s, Md_past_s, Md_pastMany_s, Md_slots_s, Md_isSaved_s, Md_spare_s, Md_text_s, Md_typed_s, Md_hasPaid_s, Md_misses_s, Md_potNow_s, Md_read_s, Md_spot_s, Md_wrong_s, mul8, mul8r, lt_e, bd_s, gi_ok, gz2, gz8, gz40, q_add, nI_s1, nI_clamp, upd_same, nar0, nar1, c0, c1, c2, c3, c4, g0_157, g1_157, g2_157, g3_157, g4_157, g0_1, a5, a13, a21, a29, a37, a45, a53, a61, a69, a77, a85, a93, nI_lti, n1, hu, e1, ↓reduceIte]
  have fin : ∀ (bi0 : Nat → Int32), b_X5_leastBid_60 w0 (pd, mg, nI T) (nI a) (nI G) (nI (G + 1 + 1), (nI c, mo, co, bo, gv, pu, gu, bi0, aw, ta, ins, pf, po, go, sh, ms, de)) = some (.inr (.inl (nI (G + 1 + 1), (nI c, mo, co, bo, gv, pu, gu, bi0, aw, ta, ins, pf, po, go, sh, ms, de)))) := by
    intro bi0
    have n1 : G + 1 < G + 1 + 1 := by omega
    simp (disch := omega) only [b_X5_leastBid_60, St_count, St_month, St_contribution, St_box, St_given, St_purse, St_guarantor, St_bid, St_away, St_taken, St_inside, St_paidForItself, St_paidForOthers, St_gotOfPot, St_shares, St_misses, St_debt, St_count_s, St_month_s, St_contribution_s, St_box_s, St_given_s, St_purse_s, St_guarantor_s, St_bid_s, St_away_s, St_taken_s, St_inside_s, St_paidForItself_s, St_paidForOthers_s, St_gotOfPot_s, St_shares_s, St_misses_s, St_debt_s, Rd_paid, Rd_missing, Rd_pence, Rd_paid_s, Rd_missing_s, Rd_pence_s, Md_thrown, Md_z, Md_past, Md_pastMany, Md_slots, Md_isSaved, Md_spare, Md_text, Md_typed, Md_hasPaid, Md_misses, Md_potNow, Md_read, Md_spot, Md_wrong, Md_thrown_s, Md_z_s, Md_past_s, Md_pastMany_s, Md_slots_s, Md_isSaved_s, Md_spare_s, Md_text_s, Md_typed_s, Md_hasPaid_s, Md_misses_s, Md_potNow_s, Md_read_s, Md_spot_s, Md_wrong_s, mul8, mul8r, lt_e, bd_s, gi_ok, gz2, gz8, gz40, q_add, nI_s1, nI_clamp, upd_same, nar0, nar1, c0, c1, c2, c3, c4, g0_157, g1_157, g2_157, g3_157, g4_157, g0_1, a5, a13, a21, a29, a37, a45, a53, a61, a69, a77, a85, a93, nI_lti, n1, ↓reduceIte]
  have s1 := st G bi (by omega) rfl
  have s2 := st (G + 1) (upd bi a (nI G)) (by omega) upd_two
  by_cases h1 : W G = nI a
  · rw [if_pos h1] at s1
    refine ⟨_, lp_mono 1 FU _ _ (Nat.le_of_lt (FU_gt (by omega))) (by rw [lp, s1]), Or.inl ⟨h1, _, rfl⟩⟩
  · rw [if_neg h1] at s1
    by_cases h2 : W (G + 1) = nI a
    · rw [if_pos h2] at s2
      refine ⟨_, lp_mono 2 FU _ _ (Nat.le_of_lt (FU_gt (by omega))) (by rw [lp, s1]; show lp _ 1 _ = _; rw [lp, s2]), Or.inr (Or.inl ⟨h1, h2, _, rfl⟩)⟩
    · rw [if_neg h2] at s2
      refine ⟨_, lp_mono 3 FU _ _ (Nat.le_of_lt (FU_gt (by omega))) (by rw [lp, s1]; show lp _ 2 _ = _; rw [lp, s2]; show lp _ 1 _ = _; rw [lp, fin]), Or.inr (Or.inr ⟨h1, h2, _, _, rfl⟩)⟩
set_option maxHeartbeats 4000000 in
theorem try_leastBid {v : StV} (hv : Now v z) (t0 : StV) (r : RdV) (i : Int32) : Two (f_X5_leastBid v t0 r i) (f_X6_leastBid (th, z, past, pm, sl, sv, sp, tx, ty, hp, mi, pot, rd, spt, wr) i) (Ans (fun s k => s = IOB ∧ k = 1) (fun (_ : StV × RdV) q => ∃ t sp' hp' mi' pot', q = (t, z, past, pm, sl, sv, sp', tx, ty, hp', mi', pot', rd, spt, wr))) := by
  obtain ⟨c, m, hm, g⟩ := hv
  have hc := g.cnt.1
  rcases mem_or i hc with ⟨a, ha, rfl⟩ | ha
  · obtain ⟨m1, m2, -⟩ := g.yes (th := th) (past := past) (pm := pm) (sl := sl) (sv := sv) (sp := sp) (tx := tx) (ty := ty) (hp := hp) (mi := mi) (pot := pot) (rd := rd) (spt := spt) (wr := wr) ha
    obtain ⟨t, e1, g1⟩ := g.copy t0
    obtain ⟨sp', e2, hs⟩ := aside_f (th := (0:Int32)) (z := z) (past := past) (pm := pm) (sl := sl) (sv := sv) (sp := sp) (tx := tx) (ty := ty) (hp := hp) (mi := mi) (pot := pot) (rd := rd) (spt := spt) (wr := wr)
    obtain ⟨pd, mg, pn⟩ := r
    obtain ⟨mo, co, bo, gv, pu, gu, bi, aw, ta, ins, pf, po, go, sh, ms, de, rfl, hz, ok⟩ := id g1
    obtain ⟨-, hmo, ⟨q, hq1, hq5, hq⟩, hg, hb, haw, ht, hi, hpf, hpo, hgo, hsh⟩ := id ok
    obtain ⟨pd0, mg0, hp0, mi1, mi0, t1, t2, pu1, pf0, pu0, po0, ms0, de0, x1, x2, x3, h1, h2, h3, h4⟩ := pays (th := (0:Int32)) (past := past) (pm := pm) (sl := sl) (sv := sv) (sp := sp) (tx := tx) (ty := ty) (hp := hp) (mi := mi) (pot := pot) (rd := rd) (spt := spt) (wr := wr) (pd := pd) (mg := mg) (pn := pn) (mo := mo) (bo := bo) (gv := gv) (pu := pu) (bi := bi) (bx := bi) (ta := ta) (go := go) (sh := sh) (ms := ms) (de := de) hc hi haw hg hq hq5 hpf hpo
    generalize hT : t1 + t2 = T at x1 h1
    have hm0 : ∀ j, j < c → (mg0 j = 0 ∨ mg0 j = 1) := fun j hj => (h4 j hj).2
    have hWd : ∀ n, (fun n => tkS (cnT ins mg0 ta) (fun i => cbd (nI T) (upd bi a (nI n) i)) (m % c) c c) n = tkS (cnT ins mg0 ta) (fun i => cbd (nI T) (upd bi a (nI n) i)) (m % c) c c := fun n => rfl
    generalize (fun n => tkS (cnT ins mg0 ta) (fun i => cbd (nI T) (upd bi a (nI n) i)) (m % c) c c) = W at hWd
    have hp8 : m % c < c := Nat.mod_lt _ (by omega)
    have hbu : ∀ n, n ≤ 999 → Rg c 999 (upd bi a (nI n)) := fun n hn => hb.upd hn
    have hvl : ∀ n, n ≤ 999 → ∀ i, i < c → (fun i => cbd (nI T) (upd bi a (nI n) i)) i = nI (bvl T (upd bi a (nI n) i)) ∧ bvl T (upd bi a (nI n) i) < 2147483648 := fun n hn => bvl_all h1 (b2 := upd bi a (nI n)) (fun i hi => by
      obtain ⟨k, k1, k2⟩ := hbu n hn i hi
      exact ⟨k, by omega, k2⟩)
    have hWm : ∀ n, n ≤ 999 → ∀ (hp mi : Nat → Int32) (pot : Int32), ∃ z' hp' mi' pot', f_X6_goMonth ((0:Int32), upd z (21 + a) (nI n), past, pm, sl, sv, sp', tx, ty, hp, mi, pot, rd, spt, wr) = some (W n, ((0:Int32), z', past, pm, sl, sv, sp', tx, ty, hp', mi', pot', rd, spt, wr)) ∧ ∀ k, 157 ≤ k → z' k = z k := by
      intro n hn hp mi pot
      have ok' : Ok c m mo co gu (upd bi a (nI n)) aw ta ins pf po go sh := ⟨hc, hmo, ⟨q, hq1, hq5, hq⟩, hg, hbu n hn, haw, ht, hi, hpf, hpo, hgo, hsh⟩
      obtain ⟨w, pd', mg', t', hp', mi', bo', pu', bi', aw', ta', pf', po', go', sh', ms', de', f1, f2, ok2, ht', hw, v1, f3⟩ := month_go (th := (0:Int32)) (past := past) (pm := pm) (sl := sl) (sv := sv) (sp := sp') (tx := tx) (ty := ty) (hp := hp) (mi := mi) (pot := pot) (rd := rd) (spt := spt) (wr := wr) (pd := pd) (mg := mg) (pn := pn) (bo := bo) (gv := gv) (pu := pu) (ms := ms) (de := de) ok' (by omega)
      obtain ⟨y1, y2⟩ := pay_free hc hi haw hg hq hq5 hpf hpo x1 f3
      have y3 : T = t' := (nI_inj (by omega) (by omega)).mp y1
      have hWw : W n = w := by
        rw [hWd, hw, ← y3]
        exact tkS_congr (by omega) hc (fun j hj => cnT_ext (y2 j hj)) (fun j hj => rfl) c
      rw [← U_bi ha hc, ← hz, ← hWw] at f2
      exact ⟨_, hp', mi', nI t', f2, fun k hk => by rw [g.out k hk]; exact E_out hk⟩
    obtain ⟨_, l2, f, n', hp', mi', pot', rfl, hf⟩ := on_get (every (th := (0:Int32)) (z := z) (past := past) (pm := pm) (sl := sl) (sv := sv) (sp := sp') (tx := tx) (ty := ty) (hp := hp) (mi := mi) (pot := pot) (rd := rd) (spt := spt) (wr := wr) g1 hm hs ha hWm)
    have em : f_X6_leastBid (th, z, past, pm, sl, sv, sp, tx, ty, hp, mi, pot, rd, spt, wr) (nI a) = some (f, (0, z, past, pm, sl, sv, sp', tx, ty, hp', mi', pot', rd, spt, wr)) := by
      rw [f_X6_leastBid, m2]
      simp only [bd_s, lt_e, St_count, St_month, St_contribution, St_box, St_given, St_purse, St_guarantor, St_bid, St_away, St_taken, St_inside, St_paidForItself, St_paidForOthers, St_gotOfPot, St_shares, St_misses, St_debt, St_count_s, St_month_s, St_contribution_s, St_box_s, St_given_s, St_purse_s, St_guarantor_s, St_bid_s, St_away_s, St_taken_s, St_inside_s, St_paidForItself_s, St_paidForOthers_s, St_gotOfPot_s, St_shares_s, St_misses_s, St_debt_s, Rd_paid, Rd_missing, Rd_pence, Rd_paid_s, Rd_missing_s, Rd_pence_s, Md_thrown, Md_z, Md_past, Md_pastMany, Md_slots, Md_isSaved, Md_spare, Md_text, Md_typed, Md_hasPaid, Md_misses, Md_potNow, Md_read, Md_spot, Md_wrong, Md_thrown_s, Md_z_s, Md_past_s, Md_pastMany_s, Md_slots_s, Md_isSaved_s, Md_spare_s, Md_text_s, Md_typed_s, Md_hasPaid_s, Md_misses_s, Md_potNow_s, Md_read_s, Md_spot_s, Md_wrong_s, o_ne, zle, e2, l2, ↓reduceIte]
    have done : ∀ w, f_X5_leastBid v t0 (pd, mg, pn) (nI a) = some (.inl (f, w)) → Two (f_X5_leastBid v t0 (pd, mg, pn) (nI a)) (f_X6_leastBid (th, z, past, pm, sl, sv, sp, tx, ty, hp, mi, pot, rd, spt, wr) (nI a)) (Ans (fun s k => s = IOB ∧ k = 1) (fun (_ : StV × RdV) q => ∃ t sp' hp' mi' pot', q = (t, z, past, pm, sl, sv, sp', tx, ty, hp', mi', pot', rd, spt, wr))) := fun w e => tw_mk e em ⟨rfl, rfl, 0, sp', hp', mi', pot', rfl⟩
    have cx := can_x (pd := pd0) (mg := mg0) (pn := nI T) (mo := mo) (co := co) (bo := bo) (gv := gv) (pu := pu0) (gu := gu) (bi := bi) (aw := aw) (ta := ta) (ins := ins) (pf := pf0) (po := po0) (go := go) (sh := sh) (ms := ms0) (de := de0) ha hc
    cases hca : cnT ins mg0 ta a with
    | false =>
      have hf0 : f = (-99999:Int32) := by
        rcases hf with ⟨h, -⟩ | ⟨n, hn, -, h, -⟩
        · exact h
        · rw [hWd] at h
          rcases tkS_is (can := cnT ins mg0 ta) (cb := fun i => cbd (nI T) (upd bi a (nI n) i)) (p := m % c) (c := c) (by omega) c with w | ⟨j, hj, hjc, w⟩
          · rw [w] at h; exact absurd h.symm (fun q => (nI_neg (by omega)).mp q)
          · have : j = a := (nI_inj (by omega) (by omega)).mp (w.symm.trans h)
            subst this
            rw [hca] at hjc; cases hjc
      subst hf0
      have cz : (if ins a = 0 then (0:Int32) else if mg0 a = 0 then (if ta a = 0 then 1 else 0) else 0) = 0 := by
        by_cases q1 : ins a = 0
        · rw [if_pos q1]
        · rw [if_neg q1]
          by_cases q2 : mg0 a = 0
          · rw [if_pos q2]
            by_cases q3 : ta a = 0
            · have q1' := (hi a ha).resolve_left q1
              rw [cnT_yes q1' q2 q3] at hca; cases hca
            · rw [if_neg q3]
          · rw [if_neg q2]
      rw [cz] at cx
      refine done ((nI c, mo, co, bo, gv, pu0, gu, bi, aw, ta, ins, pf0, po0, go, sh, ms0, de0), (pd0, mg0, nI T)) ?_
      rw [f_X5_leastBid, m1, bx_l, e1, bd_s, x1, bd_s, cx, bd_s, if_pos rfl]
    | true =>
      have cz : (if ins a = 0 then (0:Int32) else if mg0 a = 0 then (if ta a = 0 then 1 else 0) else 0) = 1 := by
        by_cases q1 : ins a = 0
        · rw [cnT_no (Or.inl q1)] at hca; cases hca
        · rw [if_neg q1]
          rcases hm0 a ha with q2 | q2
          · rw [if_pos q2]
            rcases ht a ha with q3 | q3
            · rw [if_pos q3]
            · rw [cnT_no (Or.inr (Or.inr q3))] at hca; cases hca
          · rw [cnT_no (Or.inr (Or.inl q2))] at hca; cases hca
      rw [cz] at cx
      obtain ⟨G, G1, G2, G3, G4⟩ := great (pd := pd0) (mg := mg0) (mo := mo) (co := co) (bo := bo) (gv := gv) (pu := pu0) (gu := gu) (bi := bi) (aw := aw) (ta := ta) (ins := ins) (pf := pf0) (po := po0) (go := go) (sh := sh) (ms := ms0) (de := de0) hc hi ht hm0 hb h1 ha
      have low : ∀ n, n < G → ¬ W n = nI a := by
        intro n hn
        rcases G4 with h0 | ⟨j, hj, hja, hjc, hjv⟩
        · omega
        · rw [hWd]
          refine tk_no hp8 hc (hvl n (by omega)) ha hj hjc ?_
          show bvl T (upd bi a (nI n) a) < bvl T (upd bi a (nI n) j)
          rw [upd_same, upd_ne hja, hjv, bvl_own (by omega)]
          split <;> omega
      obtain ⟨e9, l1, hl⟩ := least_loop (pd := pd0) (mg := mg0) (mo := mo) (co := co) (bo := bo) (gv := gv) (pu := pu0) (gu := gu) (bi := bi) (aw := aw) (ta := ta) (ins := ins) (pf := pf0) (po := po0) (go := go) (sh := sh) (ms := ms0) (de := de0) (m := m) (T := T) (G := G) (w0 := v) (W := W) hc hi ht hm0 hmo (by omega) ha (by omega) hWd
      have ex : f_X5_leastBid v t0 (pd, mg, pn) (nI a) = el e9 (fun (s16 : (Int32 × StV)) => some (.inl ((-99999:Int32), (s16.2, (pd0, mg0, nI T))))) (fun r => Sum.inl r) := by
        rw [f_X5_leastBid, m1, bx_l, e1, bd_s, x1, bd_s, cx, bd_s, if_neg (by decide), G2, bd_s, l1, bd_s]
      rcases hl with ⟨w1, v', rfl⟩ | ⟨w1, w2, v', rfl⟩ | ⟨w1, w2, n2, v', rfl⟩
      · have hff : f = nI G := by
          rcases hf with ⟨-, h⟩ | ⟨n, hn, rfl, h, h'⟩
          · exact absurd w1 (h G (by omega))
          · have : n = G := by
              rcases Nat.lt_trichotomy n G with q | q | q
              · exact absurd h (low n q)
              · exact q
              · exact absurd w1 (h' G q)
            rw [this]
        subst hff
        exact done _ ex
      · have hff : f = nI (G + 1) := by
          rcases hf with ⟨-, h⟩ | ⟨n, hn, rfl, h, h'⟩
          · exact absurd w2 (h (G + 1) (by omega))
          · have : n = G + 1 := by
              rcases Nat.lt_trichotomy n (G + 1) with q | q | q
              · by_cases q2 : n = G
                · subst q2; exact absurd h w1
                · exact absurd h (low n (by omega))
              · exact q
              · exact absurd w2 (h' (G + 1) q)
            rw [this]
        subst hff
        exact done _ ex
      · have hff : f = (-99999:Int32) := by
          rcases hf with ⟨h, -⟩ | ⟨n, hn, rfl, h, h'⟩
          · exact h
          · exfalso
            by_cases q1 : n < G
            · exact low n q1 h
            · by_cases q2 : n = G
              · subst q2; exact w1 h
              · by_cases q3 : G + 1 ≤ T / 2
                · apply w2
                  rw [hWd]
                  refine tk_win hp8 hc (hvl (G + 1) (by omega)) ha hca (fun j hj hja hjc => ?_)
                  show bvl T (upd bi a (nI (G + 1)) j) < bvl T (upd bi a (nI (G + 1)) a)
                  rw [upd_same, upd_ne hja, bvl_own (by omega)]
                  have := G3 j hj hja hjc
                  split <;> omega
                · apply w1
                  rw [hWd] at h ⊢
                  rw [← h]
                  refine tkS_congr (by omega) hc (fun j hj => rfl) (fun j hj => ?_) c
                  have w3 := (hvl G (by omega) j hj).1
                  have w4 := (hvl n hn j hj).1
                  dsimp only at w3 w4
                  rw [w3, w4]
                  by_cases e : j = a
                  · subst e
                    rw [upd_same, upd_same, bvl_own (by omega), bvl_own (by omega)]
                    exact congrArg nI (by split <;> split <;> omega)
                  · rw [upd_ne e, upd_ne e]
        subst hff
        exact done _ ex
  · obtain ⟨m1, m2, -⟩ := g.no (th := th) (past := past) (pm := pm) (sl := sl) (sv := sv) (sp := sp) (tx := tx) (ty := ty) (hp := hp) (mi := mi) (pot := pot) (rd := rd) (spt := spt) (wr := wr) ha
    refine tw_mk (a := .inr (IOB, (t0, r))) (b := ((0:Int32), (1, z, past, pm, sl, sv, sp, tx, ty, hp, mi, pot, rd, spt, wr))) ?_ ?_ ⟨1, ⟨rfl, rfl⟩, rfl, 1, sp, hp, mi, pot, rfl⟩
    · simp only [f_X5_leastBid, m1, bx_r]
    · rw [f_X6_leastBid, m2]
      simp only [bd_s, lt_e, St_count, St_month, St_contribution, St_box, St_given, St_purse, St_guarantor, St_bid, St_away, St_taken, St_inside, St_paidForItself, St_paidForOthers, St_gotOfPot, St_shares, St_misses, St_debt, St_count_s, St_month_s, St_contribution_s, St_box_s, St_given_s, St_purse_s, St_guarantor_s, St_bid_s, St_away_s, St_taken_s, St_inside_s, St_paidForItself_s, St_paidForOthers_s, St_gotOfPot_s, St_shares_s, St_misses_s, St_debt_s, Rd_paid, Rd_missing, Rd_pence, Rd_paid_s, Rd_missing_s, Rd_pence_s, Md_thrown, Md_z, Md_past, Md_pastMany, Md_slots, Md_isSaved, Md_spare, Md_text, Md_typed, Md_hasPaid, Md_misses, Md_potNow, Md_read, Md_spot, Md_wrong, Md_thrown_s, Md_z_s, Md_past_s, Md_pastMany_s, Md_slots_s, Md_isSaved_s, Md_spare_s, Md_text_s, Md_typed_s, Md_hasPaid_s, Md_misses_s, Md_potNow_s, Md_read_s, Md_spot_s, Md_wrong_s, ole, ↓reduceIte]
end LEAST
