/-! a month: who takes the pot -/
section TAKE
variable {c : Nat} {mo co bo gv : Int32} {pu gu bi aw ta ins pf po go sh ms de : Nat → Int32}
variable {pd mg : Nat → Int32} {pn : Int32}
/-- what a bid counts for -/
def cbd (p b : Int32) : Int32 := if p / (2:Int32) < b then p / (2:Int32) else b
theorem bid_x {i : Nat} (h : i < c) (hc : c ≤ 8) : f_X1_countedBid (pd, mg, pn) (nI c, mo, co, bo, gv, pu, gu, bi, aw, ta, ins, pf, po, go, sh, ms, de) (nI i) = some (cbd pn (bi i), ()) := by
  simp (disch := omega) only [f_X1_countedBid, St_count, St_month, St_contribution, St_box, St_given, St_purse, St_guarantor, St_bid, St_away, St_taken, St_inside, St_paidForItself, St_paidForOthers, St_gotOfPot, St_shares, St_misses, St_debt, St_count_s, St_month_s, St_contribution_s, St_box_s, St_given_s, St_purse_s, St_guarantor_s, St_bid_s, St_away_s, St_taken_s, St_inside_s, St_paidForItself_s, St_paidForOthers_s, St_gotOfPot_s, St_shares_s, St_misses_s, St_debt_s, Rd_paid, Rd_missing, Rd_pence, Rd_paid_s, Rd_missing_s, Rd_pence_s, mul8, lt_e, bd_s, gi_ok, gz2, q_add, nI_s1, nI_clamp, upd_same, nar0, nar1, c0, nf_at, nf_un, cbd]
theorem part_x {i : Nat} (h : i < c) (hc : c ≤ 8) : f_X1_takesPart (pd, mg, pn) (nI c, mo, co, bo, gv, pu, gu, bi, aw, ta, ins, pf, po, go, sh, ms, de) (nI i) = some (if ins i = 0 then 0 else if mg i = 0 then 1 else 0, ()) := by
  simp (disch := omega) only [f_X1_takesPart, St_count, St_month, St_contribution, St_box, St_given, St_purse, St_guarantor, St_bid, St_away, St_taken, St_inside, St_paidForItself, St_paidForOthers, St_gotOfPot, St_shares, St_misses, St_debt, St_count_s, St_month_s, St_contribution_s, St_box_s, St_given_s, St_purse_s, St_guarantor_s, St_bid_s, St_away_s, St_taken_s, St_inside_s, St_paidForItself_s, St_paidForOthers_s, St_gotOfPot_s, St_shares_s, St_misses_s, St_debt_s, Rd_paid, Rd_missing, Rd_pence, Rd_paid_s, Rd_missing_s, Rd_pence_s, mul8, lt_e, bd_s, gi_ok, gz2, q_add, nI_s1, nI_clamp, upd_same, nar0, nar1, c0, nf_at, nf_un]
  by_cases h1 : ins i = 0 <;> by_cases h2 : mg i = 0 <;> simp only [h1, h2, ↓reduceIte]
theorem can_x {i : Nat} (h : i < c) (hc : c ≤ 8) : f_X1_canTake (pd, mg, pn) (nI c, mo, co, bo, gv, pu, gu, bi, aw, ta, ins, pf, po, go, sh, ms, de) (nI i) = some (if ins i = 0 then 0 else if mg i = 0 then (if ta i = 0 then 1 else 0) else 0, ()) := by
  rw [f_X1_canTake, part_x h hc]
  simp (disch := omega) only [St_count, St_month, St_contribution, St_box, St_given, St_purse, St_guarantor, St_bid, St_away, St_taken, St_inside, St_paidForItself, St_paidForOthers, St_gotOfPot, St_shares, St_misses, St_debt, St_count_s, St_month_s, St_contribution_s, St_box_s, St_given_s, St_purse_s, St_guarantor_s, St_bid_s, St_away_s, St_taken_s, St_inside_s, St_paidForItself_s, St_paidForOthers_s, St_gotOfPot_s, St_shares_s, St_misses_s, St_debt_s, Rd_paid, Rd_missing, Rd_pence, Rd_paid_s, Rd_missing_s, Rd_pence_s, mul8, lt_e, bd_s, gi_ok, gz2, q_add, nI_s1, nI_clamp, upd_same, nar0, nar1, c0, nf_at, nf_un]
  by_cases h1 : ins i = 0 <;> by_cases h2 : mg i = 0 <;> by_cases h3 : ta i = 0 <;> simp only [h1, h2, h3, z_ne, o_ne, ↓reduceIte]
/-- the taker: over the members in their order from the one that is first -/
def cnT (ins mg ta : Nat → Int32) (i : Nat) : Bool := ins i == 1 && mg i == 0 && ta i == 0
def tkB (can : Nat → Bool) (cb : Nat → Int32) (b : Int32) (i : Nat) : Int32 := if can i = true then (if b = (-99999:Int32) then nI i else if cb i ≤ cb b.toNatClampNeg then b else nI i) else b
def tkS (can : Nat → Bool) (cb : Nat → Int32) (p c : Nat) : Nat → Int32
  | 0 => (-99999:Int32)
  | k + 1 => tkB can cb (tkS can cb p c k) ((p + k) % c)
theorem tkS_is {can : Nat → Bool} {cb : Nat → Int32} {p c : Nat} (hc : 0 < c) : ∀ k, tkS can cb p c k = (-99999:Int32) ∨ ∃ j, j < c ∧ can j = true ∧ tkS can cb p c k = nI j
  | 0 => Or.inl rfl
  | k + 1 => by
    have hm : (p + k) % c < c := Nat.mod_lt _ hc
    unfold tkS tkB
    by_cases h1 : can ((p + k) % c) = true
    · rw [if_pos h1]
      by_cases h2 : tkS can cb p c k = (-99999:Int32)
      · rw [if_pos h2]; exact Or.inr ⟨_, hm, h1, rfl⟩
      · rw [if_neg h2]
        split
        · exact tkS_is hc k
        · exact Or.inr ⟨_, hm, h1, rfl⟩
    · rw [if_neg h1]; exact tkS_is hc k
theorem cnT_no {mg ta : Nat → Int32} {i : Nat} (h : ins i = 0 ∨ mg i = 1 ∨ ta i = 1) : cnT ins mg ta i = false := by
  unfold cnT
  rcases h with h | h | h <;> rw [h] <;> simp
theorem cnT_yes {mg ta : Nat → Int32} {i : Nat} (h : ins i = 1) (h1 : mg i = 0) (h2 : ta i = 0) : cnT ins mg ta i = true := by
  unfold cnT
  rw [h, h1, h2]; rfl
theorem take_x (hc : c ≤ 8) (hi : Bo ins) (ht : Bo ta) (hm : ∀ j, j < c → (mg j = 0 ∨ mg j = 1)) {p : Nat} (hp : p < c ∨ c = 0) : One (lp (b_X1_taker_27 (pd, mg, pn) (nI c, mo, co, bo, gv, pu, gu, bi, aw, ta, ins, pf, po, go, sh, ms, de) (nI p)) FU ((-99999:Int32), nI 0)) (fun e => e = (tkS (cnT ins mg ta) (fun i => cbd pn (bi i)) p c c, nI c)) := by
  refine lp_one (fun n s => ∃ k, s = (tkS (cnT ins mg ta) (fun i => cbd pn (bi i)) p c k, nI k) ∧ k ≤ c ∧ n = c - k) _ ?_ (n := c) ⟨0, rfl, by omega, by omega⟩ (FU_gt (by omega))
  rintro n s ⟨k, rfl, h1, rfl⟩ J hJ
  by_cases h : k = c
  · subst h
    simp (disch := omega) only [b_X1_taker_27, St_count, St_month, St_contribution, St_box, St_given, St_purse, St_guarantor, St_bid, St_away, St_taken, St_inside, St_paidForItself, St_paidForOthers, St_gotOfPot, St_shares, St_misses, St_debt, St_count_s, St_month_s, St_contribution_s, St_box_s, St_given_s, St_purse_s, St_guarantor_s, St_bid_s, St_away_s, St_taken_s, St_inside_s, St_paidForItself_s, St_paidForOthers_s, St_gotOfPot_s, St_shares_s, St_misses_s, St_debt_s, Rd_paid, Rd_missing, Rd_pence, Rd_paid_s, Rd_missing_s, Rd_pence_s, mul8, lt_e, bd_s, gi_ok, gz2, q_add, nI_s1, nI_clamp, upd_same, nar0, nar1, c0, nf_at, nf_un, nI_lei, Nat.le_refl, ↓reduceIte]
    rfl
  · have hk : k < c := by omega
    have hpc : p < c := by omega
    have nk : ¬ c ≤ k := by omega
    have next : J (tkB (cnT ins mg ta) (fun i => cbd pn (bi i)) (tkS (cnT ins mg ta) (fun i => cbd pn (bi i)) p c k) ((p + k) % c), nI (k + 1)) := hJ _ _ (by omega) ⟨k + 1, rfl, by omega, rfl⟩
    have hb := tkS_is (can := cnT ins mg ta) (cb := fun i => cbd pn (bi i)) (p := p) (c := c) (by omega) k
    generalize tkS (cnT ins mg ta) (fun i => cbd pn (bi i)) p c k = b at next hb ⊢
    have key : ∀ i, i < c → i = (p + k) % c → Sto (bd (f_X1_canTake (pd, mg, pn) (nI c, mo, co, bo, gv, pu, gu, bi, aw, ta, ins, pf, po, go, sh, ms, de) (nI i)) (fun (q5 : Int32 × (Unit)) => (if q5.1 = (0:Int32) then some (Sum.inl (b, nI (k + 1))) else (if b = (-99999:Int32) then some (Sum.inl (nI i, nI (k + 1))) else bd (f_X1_countedBid (pd, mg, pn) (nI c, mo, co, bo, gv, pu, gu, bi, aw, ta, ins, pf, po, go, sh, ms, de) (nI i)) (fun (q10 : Int32 × (Unit)) => bd (f_X1_countedBid (pd, mg, pn) (nI c, mo, co, bo, gv, pu, gu, bi, aw, ta, ins, pf, po, go, sh, ms, de) b) (fun (q11 : Int32 × (Unit)) => (if q10.1 ≤ q11.1 then some (Sum.inl (b, nI (k + 1))) else some (Sum.inl (nI i, nI (k + 1)))))))))) J (fun e => e = (tkS (cnT ins mg ta) (fun i => cbd pn (bi i)) p c c, nI c)) := by
      intro i hic he
      rw [← he] at next
      rw [can_x hic hc]
      unfold tkB at next
      rcases hi i with e1 | e1
      · simp only [bd_s, e1, ↓reduceIte]
        rw [if_neg (by rw [cnT_no (Or.inl e1)]; decide)] at next
        exact next
      · rcases hm i hic with e2 | e2
        · rcases ht i with e3 | e3
          · rw [if_pos (cnT_yes e1 e2 e3)] at next
            rcases hb with rfl | ⟨j, hj, -, rfl⟩
            · simp only [bd_s, e1, e2, e3, z_ne, o_ne, ↓reduceIte] at next ⊢
              exact next
            · simp (disch := omega) only [bd_s, e1, e2, e3, z_ne, o_ne, nI_neg, nI_clamp, bid_x, ↓reduceIte] at next ⊢
              by_cases h5 : cbd pn (bi i) ≤ cbd pn (bi j)
              · rw [if_pos h5] at next ⊢; exact next
              · rw [if_neg h5] at next ⊢; exact next
          · simp only [bd_s, e1, e2, e3, z_ne, o_ne, ↓reduceIte]
            rw [if_neg (by rw [cnT_no (Or.inr (Or.inr e3))]; decide)] at next
            exact next
        · simp only [bd_s, e1, e2, z_ne, o_ne, ↓reduceIte]
          rw [if_neg (by rw [cnT_no (Or.inr (Or.inl e2))]; decide)] at next
          exact next
    by_cases h5 : c ≤ p + k
    · simp (disch := omega) only [b_X1_taker_27, St_count, St_month, St_contribution, St_box, St_given, St_purse, St_guarantor, St_bid, St_away, St_taken, St_inside, St_paidForItself, St_paidForOthers, St_gotOfPot, St_shares, St_misses, St_debt, St_count_s, St_month_s, St_contribution_s, St_box_s, St_given_s, St_purse_s, St_guarantor_s, St_bid_s, St_away_s, St_taken_s, St_inside_s, St_paidForItself_s, St_paidForOthers_s, St_gotOfPot_s, St_shares_s, St_misses_s, St_debt_s, Rd_paid, Rd_missing, Rd_pence, Rd_paid_s, Rd_missing_s, Rd_pence_s, lt, q_add, nI_s1, nI_lei, nI_sub, nk, h5, ↓reduceIte]
      exact key (p + k - c) (by omega) (mod_wrap hpc hk h5).symm
    · simp (disch := omega) only [b_X1_taker_27, St_count, St_month, St_contribution, St_box, St_given, St_purse, St_guarantor, St_bid, St_away, St_taken, St_inside, St_paidForItself, St_paidForOthers, St_gotOfPot, St_shares, St_misses, St_debt, St_count_s, St_month_s, St_contribution_s, St_box_s, St_given_s, St_purse_s, St_guarantor_s, St_bid_s, St_away_s, St_taken_s, St_inside_s, St_paidForItself_s, St_paidForOthers_s, St_gotOfPot_s, St_shares_s, St_misses_s, St_debt_s, Rd_paid, Rd_missing, Rd_pence, Rd_paid_s, Rd_missing_s, Rd_pence_s, lt, q_add, nI_s1, nI_lei, nk, h5, ↓reduceIte]
      exact key (p + k) (by omega) (Nat.mod_eq_of_lt (by omega)).symm
theorem taker_x (hc : c ≤ 8) (hi : Bo ins) (ht : Bo ta) (hm : ∀ j, j < c → (mg j = 0 ∨ mg j = 1)) {m : Nat} (hmo : mo = nI m) (hml : m ≤ 2000) : f_X1_taker (pd, mg, pn) (nI c, mo, co, bo, gv, pu, gu, bi, aw, ta, ins, pf, po, go, sh, ms, de) = some (tkS (cnT ins mg ta) (fun i => cbd pn (bi i)) (m % c) c c, ()) := by
  subst hmo
  by_cases h0 : c = 0
  · subst h0
    obtain ⟨e, h1, rfl⟩ := on_get (take_x (mo := nI m) (co := co) (bo := bo) (gv := gv) (pu := pu) (gu := gu) (bi := bi) (aw := aw) (pf := pf) (po := po) (go := go) (sh := sh) (ms := ms) (de := de) (pd := pd) (pn := pn) hc hi ht hm (p := 0) (Or.inr rfl))
    have h1 : lp (b_X1_taker_27 (pd, mg, pn) (nI 0, nI m, co, bo, gv, pu, gu, bi, aw, ta, ins, pf, po, go, sh, ms, de) (0:Int32)) FU ((-99999:Int32), (0:Int32)) = _ := h1
    simp (disch := omega) only [f_X1_taker, St_count, St_month, St_contribution, St_box, St_given, St_purse, St_guarantor, St_bid, St_away, St_taken, St_inside, St_paidForItself, St_paidForOthers, St_gotOfPot, St_shares, St_misses, St_debt, St_count_s, St_month_s, St_contribution_s, St_box_s, St_given_s, St_purse_s, St_guarantor_s, St_bid_s, St_away_s, St_taken_s, St_inside_s, St_paidForItself_s, St_paidForOthers_s, St_gotOfPot_s, St_shares_s, St_misses_s, St_debt_s, Rd_paid, Rd_missing, Rd_pence, Rd_paid_s, Rd_missing_s, Rd_pence_s, ge0, Nat.le_refl, ↓reduceIte, h1, bd_s]
    rfl
  · obtain ⟨e, h1, rfl⟩ := on_get (take_x (mo := nI m) (co := co) (bo := bo) (gv := gv) (pu := pu) (gu := gu) (bi := bi) (aw := aw) (pf := pf) (po := po) (go := go) (sh := sh) (ms := ms) (de := de) (pd := pd) (pn := pn) hc hi ht hm (p := m % c) (Or.inl (Nat.mod_lt _ (by omega))))
    have h1 : lp (b_X1_taker_27 (pd, mg, pn) (nI c, nI m, co, bo, gv, pu, gu, bi, aw, ta, ins, pf, po, go, sh, ms, de) (nI (m % c))) FU ((-99999:Int32), (0:Int32)) = _ := h1
    have n0 : ¬ c ≤ 0 := by omega
    have nz : ¬ nI c = 0 := by
      intro h
      exact h0 ((nI_inj (b := 0) (by omega) (by omega)).mp h)
    simp (disch := omega) only [f_X1_taker, St_count, St_month, St_contribution, St_box, St_given, St_purse, St_guarantor, St_bid, St_away, St_taken, St_inside, St_paidForItself, St_paidForOthers, St_gotOfPot, St_shares, St_misses, St_debt, St_count_s, St_month_s, St_contribution_s, St_box_s, St_given_s, St_purse_s, St_guarantor_s, St_bid_s, St_away_s, St_taken_s, St_inside_s, St_paidForItself_s, St_paidForOthers_s, St_gotOfPot_s, St_shares_s, St_misses_s, St_debt_s, Rd_paid, Rd_missing, Rd_pence, Rd_paid_s, Rd_missing_s, Rd_pence_s, lt, ge0, gz, n0, nz, nI_rem, ↓reduceIte, h1, bd_s]
/-- who else takes part -/
def oth (ins mg : Nat → Int32) (w i : Nat) : Bool := !(i == w) && (ins i == 1 && mg i == 0)
def othN (ins mg : Nat → Int32) (w : Nat) : Nat → Nat
  | 0 => 0
  | k + 1 => othN ins mg w k + (if oth ins mg w k = true then 1 else 0)
theorem othN_le {mg : Nat → Int32} {w : Nat} : ∀ k, othN ins mg w k ≤ k
  | 0 => Nat.le_refl 0
  | k + 1 => by
    have := othN_le (mg := mg) (w := w) k
    unfold othN
    split <;> omega
theorem oth_eq {w : Nat} : oth ins mg w w = false := by simp [oth]
theorem oth_no {w i : Nat} (h : ins i = 0 ∨ mg i = 1) : oth ins mg w i = false := by
  unfold oth
  rcases h with h | h <;> rw [h] <;> simp
theorem oth_yes {w i : Nat} (h0 : i ≠ w) (h : ins i = 1) (h1 : mg i = 0) : oth ins mg w i = true := by
  unfold oth
  rw [h, h1]
  simp [h0]
theorem settle_x {w j : Nat} (hw : w < 8) (hj : j < 8) {r : Int32} : f_X3_settle (nI c, mo, co, bo, gv, pu, gu, bi, aw, ta, ins, pf, po, go, sh, ms, de) (nI w) (nI j) r = some (if r < de (w * 8 + j) then r else de (w * 8 + j), (nI c, mo, co, bo, gv, upd pu j (pu j + (if r < de (w * 8 + j) then r else de (w * 8 + j))), gu, bi, aw, ta, ins, pf, po, go, sh, ms, upd de (w * 8 + j) (de (w * 8 + j) - (if r < de (w * 8 + j) then r else de (w * 8 + j))))) := by
  simp (disch := omega) only [f_X3_settle, f_X3_pair, St_count, St_month, St_contribution, St_box, St_given, St_purse, St_guarantor, St_bid, St_away, St_taken, St_inside, St_paidForItself, St_paidForOthers, St_gotOfPot, St_shares, St_misses, St_debt, St_count_s, St_month_s, St_contribution_s, St_box_s, St_given_s, St_purse_s, St_guarantor_s, St_bid_s, St_away_s, St_taken_s, St_inside_s, St_paidForItself_s, St_paidForOthers_s, St_gotOfPot_s, St_shares_s, St_misses_s, St_debt_s, Rd_paid, Rd_missing, Rd_pence, Rd_paid_s, Rd_missing_s, Rd_pence_s, mul8, lt_e, bd_s, gi_ok, gz2, q_add, nI_s1, nI_clamp, upd_same, nar0, nar1, c0, nf_at, nf_un]
end TAKE
