/-! a month: who takes it, by what the bids count for -/
def kb (t : Nat) (b : Nat → Nat) (i : Nat) : Nat := if t / 2 < b i then t / 2 else b i
theorem kb_half (t : Nat) (b : Nat → Nat) (i : Nat) : kb t b i ≤ t / 2 := by unfold kb; split <;> omega
theorem kb_le (t : Nat) (b : Nat → Nat) (i : Nat) : kb t b i ≤ b i := by unfold kb; split <;> omega
theorem cbd_kb {t : Nat} {b : Nat → Nat} {i : Nat} (ht : t ≤ 1000) (hb : ∀ j, b j ≤ 999) : cbd (nI t) (nf b i) = nI (kb t b i) := by
  have h1 := hb i
  have e : nI t / (2:Int32) = nI (t / 2) := nI_div (b := 2) (by omega) (by omega)
  unfold cbd kb
  rw [e, nf_at]
  by_cases h : t / 2 < b i
  · rw [if_pos h, if_pos ((nI_lti (by omega) (by omega)).mpr h)]
  · rw [if_neg h, if_neg (fun q => h ((nI_lti (by omega) (by omega)).mp q))]
theorem cbd_f {t : Nat} {b : Nat → Nat} (ht : t ≤ 1000) (hb : ∀ j, b j ≤ 999) : (fun i => cbd (nI t) (nf b i)) = nf (kb t b) := funext fun _ => cbd_kb ht hb
theorem tkS_cong {can : Nat → Bool} {x y : Nat → Int32} {p c : Nat} (hc : 0 < c) (hc8 : c ≤ 8) (h : ∀ j, j < c → x j = y j) : ∀ k, tkS can x p c k = tkS can y p c k
  | 0 => rfl
  | k + 1 => by
    have hm : (p + k) % c < c := Nat.mod_lt _ hc
    have ih := tkS_cong (can := can) (p := p) hc hc8 h k
    have hb := tkS_is (can := can) (cb := y) (p := p) hc k
    unfold tkS
    rw [ih]
    unfold tkB
    rcases hb with e | ⟨j, hj, -, e⟩
    · rw [e, if_pos rfl, if_pos rfl]
    · rw [e, nI_clamp (by omega), h _ hm, h j hj]
theorem tkS_some {can : Nat → Bool} {x : Nat → Int32} {p c : Nat} (hc : 0 < c) (hc8 : c ≤ 8) : ∀ k l, l < k → can ((p + l) % c) = true → ∃ w, w < c ∧ can w = true ∧ tkS can x p c k = nI w ∧ x ((p + l) % c) ≤ x w
  | 0, l, h, _ => by omega
  | k + 1, l, h, hl => by
    have hm : (p + k) % c < c := Nat.mod_lt _ hc
    by_cases e : l = k
    · subst e
      unfold tkS tkB
      rw [if_pos hl]
      rcases tkS_is (can := can) (cb := x) (p := p) hc l with e | ⟨j, hj, hcj, e⟩
      · rw [e, if_pos rfl]
        exact ⟨_, hm, hl, rfl, Int32.le_refl _⟩
      · rw [e, if_neg (fun q => (nI_neg (by omega)).mp q), nI_clamp (by omega)]
        by_cases q : x ((p + l) % c) ≤ x j
        · rw [if_pos q]; exact ⟨j, hj, hcj, rfl, q⟩
        · rw [if_neg q]; exact ⟨_, hm, hl, rfl, Int32.le_refl _⟩
    · obtain ⟨w, h1, h2, h3, h4⟩ := tkS_some (can := can) (x := x) (p := p) hc hc8 k l (by omega) hl
      unfold tkS tkB
      rw [h3, nI_clamp (by omega)]
      by_cases q : can ((p + k) % c) = true
      · rw [if_pos q, if_neg (fun q => (nI_neg (by omega)).mp q)]
        by_cases q2 : x ((p + k) % c) ≤ x w
        · rw [if_pos q2]; exact ⟨w, h1, h2, rfl, h4⟩
        · rw [if_neg q2]
          refine ⟨_, hm, q, rfl, Int32.le_trans h4 (Int32.le_of_lt (Int32.not_le.mp q2))⟩
      · rw [if_neg q]; exact ⟨w, h1, h2, rfl, h4⟩
theorem turn_of {p c j : Nat} (hj : j < c) : ∃ l, l < c ∧ (p + l) % c = j := by
  have hp : p % c < c := Nat.mod_lt _ (by omega)
  have e : ∀ l, (p + l) % c = (p % c + l) % c := fun l => by rw [Nat.add_mod, Nat.add_mod (p % c) l c, Nat.mod_mod]
  by_cases h : p % c ≤ j
  · exact ⟨j - p % c, by omega, by rw [e, show p % c + (j - p % c) = j by omega, Nat.mod_eq_of_lt hj]⟩
  · exact ⟨j + c - p % c, by omega, by rw [e, show p % c + (j + c - p % c) = j + c by omega, Nat.add_mod_right, Nat.mod_eq_of_lt hj]⟩
/-- whoever takes it bids most -/
theorem tk_max {can : Nat → Bool} {x : Nat → Int32} {p c w j : Nat} (hc8 : c ≤ 8) (h : tkS can x p c c = nI w) (hw : w < 2147483648) (hj : j < c) (hcj : can j = true) : w < c ∧ x j ≤ x w := by
  obtain ⟨l, hl, e⟩ := turn_of (p := p) hj
  obtain ⟨w2, h1, h2, h3, h4⟩ := tkS_some (can := can) (x := x) (p := p) (by omega) hc8 c l hl (by rw [e]; exact hcj)
  have : w = w2 := (nI_inj hw (by omega)).mp (h.symm.trans h3)
  subst this
  rw [e] at h4
  exact ⟨h1, h4⟩
/-- who bids more than all others takes it -/
theorem tk_win {can : Nat → Bool} {x : Nat → Int32} {p c i : Nat} (hc8 : c ≤ 8) (hi : i < c) (hci : can i = true) (h : ∀ j, j < c → j ≠ i → can j = true → x j < x i) : tkS can x p c c = nI i := by
  obtain ⟨l, hl, e⟩ := turn_of (p := p) hi
  obtain ⟨w, h1, h2, h3, h4⟩ := tkS_some (can := can) (x := x) (p := p) (by omega) hc8 c l hl (by rw [e]; exact hci)
  rw [e] at h4
  by_cases q : w = i
  · rw [h3, q]
  · exact absurd h4 (Int32.not_le.mpr (h w h1 q h2))
theorem othN_s (ins mg : Nat → Int32) (w k : Nat) : othN ins mg w (k + 1) = othN ins mg w k + (if oth ins mg w k = true then 1 else 0) := (fun (_ : True) => rfl) trivial
section SHARE
variable {c m q B g : Nat} {P : Nat → Nat} {gu : Nat → Int32} {b : Nat → Nat} {aw ta ins : Nat → Int32} {F O G H S D : Nat → Nat}
variable {pd mg : Nat → Int32} {t : Nat}
theorem others {w : Nat} (hc : c ≤ 8) (hi : Bo ins) (hm : ∀ j, j < c → (mg j = 0 ∨ mg j = 1)) (hw : w < c) : One (lp (b_X1_share_5 (pd, mg, nI t) (nI c, nI m, nI q, nI B, nI g, nf P, gu, nf b, aw, ta, ins, nf F, nf O, nf G, nf H, nf S, nf D) (nI w)) FU (nI 0, nI 0)) (fun e => e = (nI (othN ins mg w c), nI c)) := by
  refine lp_one (fun n s => ∃ k, s = (nI (othN ins mg w k), nI k) ∧ k ≤ c ∧ n = c - k) _ ?_ (n := c) ⟨0, rfl, by omega, by omega⟩ (FU_gt (by omega))
  rintro n s ⟨k, rfl, h1, rfl⟩ J hJ
  by_cases h : k = c
  · subst h
    simp (disch := omega) only [b_X1_share_5, St_count, St_month, St_contribution, St_box, St_given, St_purse, St_guarantor, St_bid, St_away, St_taken, St_inside, St_paidForItself, St_paidForOthers, St_gotOfPot, St_shares, St_misses, St_debt, St_count_s, St_month_s, St_contribution_s, St_box_s, St_given_s, St_purse_s, St_guarantor_s, St_bid_s, St_away_s, St_taken_s, St_inside_s, St_paidForItself_s, St_paidForOthers_s, St_gotOfPot_s, St_shares_s, St_misses_s, St_debt_s, Rd_paid, Rd_missing, Rd_pence, Rd_paid_s, Rd_missing_s, Rd_pence_s, mul8, lt_e, bd_s, gi_ok, gz2, q_add, nI_s1, nI_clamp, upd_same, nar0, nar1, c0, nf_at, nf_un, nI_lei, Nat.le_refl, ↓reduceIte]
    rfl
  · have hk : k < c := by omega
    have nk : ¬ c ≤ k := by omega
    have next : J (nI (othN ins mg w k + (if oth ins mg w k = true then 1 else 0)), nI (k + 1)) := hJ _ _ (by omega) ⟨k + 1, rfl, by omega, rfl⟩
    have hle := othN_le (ins := ins) (mg := mg) (w := w) k
    by_cases hkw : k = w
    · subst hkw
      rw [oth_eq] at next
      simp (disch := omega) only [b_X1_share_5, St_count, St_month, St_contribution, St_box, St_given, St_purse, St_guarantor, St_bid, St_away, St_taken, St_inside, St_paidForItself, St_paidForOthers, St_gotOfPot, St_shares, St_misses, St_debt, St_count_s, St_month_s, St_contribution_s, St_box_s, St_given_s, St_purse_s, St_guarantor_s, St_bid_s, St_away_s, St_taken_s, St_inside_s, St_paidForItself_s, St_paidForOthers_s, St_gotOfPot_s, St_shares_s, St_misses_s, St_debt_s, Rd_paid, Rd_missing, Rd_pence, Rd_paid_s, Rd_missing_s, Rd_pence_s, mul8, lt_e, bd_s, gi_ok, gz2, q_add, nI_s1, nI_clamp, upd_same, nar0, nar1, c0, nf_at, nf_un, nI_lei, nk, ↓reduceIte]
      exact next
    · rcases hi k with e1 | e1
      · rw [oth_no (Or.inl e1)] at next
        simp (disch := omega) only [b_X1_share_5, part_x hk hc, St_count, St_month, St_contribution, St_box, St_given, St_purse, St_guarantor, St_bid, St_away, St_taken, St_inside, St_paidForItself, St_paidForOthers, St_gotOfPot, St_shares, St_misses, St_debt, St_count_s, St_month_s, St_contribution_s, St_box_s, St_given_s, St_purse_s, St_guarantor_s, St_bid_s, St_away_s, St_taken_s, St_inside_s, St_paidForItself_s, St_paidForOthers_s, St_gotOfPot_s, St_shares_s, St_misses_s, St_debt_s, Rd_paid, Rd_missing, Rd_pence, Rd_paid_s, Rd_missing_s, Rd_pence_s, mul8, lt_e, bd_s, gi_ok, gz2, q_add, nI_s1, nI_clamp, upd_same, nar0, nar1, c0, nf_at, nf_un, nI_lei, nI_inj, hkw, nk, e1, ↓reduceIte]
        exact next
      · rcases hm k hk with e2 | e2
        · rw [oth_yes hkw e1 e2] at next
          simp (disch := omega) only [b_X1_share_5, part_x hk hc, St_count, St_month, St_contribution, St_box, St_given, St_purse, St_guarantor, St_bid, St_away, St_taken, St_inside, St_paidForItself, St_paidForOthers, St_gotOfPot, St_shares, St_misses, St_debt, St_count_s, St_month_s, St_contribution_s, St_box_s, St_given_s, St_purse_s, St_guarantor_s, St_bid_s, St_away_s, St_taken_s, St_inside_s, St_paidForItself_s, St_paidForOthers_s, St_gotOfPot_s, St_shares_s, St_misses_s, St_debt_s, Rd_paid, Rd_missing, Rd_pence, Rd_paid_s, Rd_missing_s, Rd_pence_s, mul8, lt_e, bd_s, gi_ok, gz2, q_add, nI_s1, nI_clamp, upd_same, nar0, nar1, c0, nf_at, nf_un, nI_lei, nI_inj, hkw, nk, e1, e2, z_ne, o_ne, ↓reduceIte]
          exact next
        · rw [oth_no (Or.inr e2)] at next
          simp (disch := omega) only [b_X1_share_5, part_x hk hc, St_count, St_month, St_contribution, St_box, St_given, St_purse, St_guarantor, St_bid, St_away, St_taken, St_inside, St_paidForItself, St_paidForOthers, St_gotOfPot, St_shares, St_misses, St_debt, St_count_s, St_month_s, St_contribution_s, St_box_s, St_given_s, St_purse_s, St_guarantor_s, St_bid_s, St_away_s, St_taken_s, St_inside_s, St_paidForItself_s, St_paidForOthers_s, St_gotOfPot_s, St_shares_s, St_misses_s, St_debt_s, Rd_paid, Rd_missing, Rd_pence, Rd_paid_s, Rd_missing_s, Rd_pence_s, mul8, lt_e, bd_s, gi_ok, gz2, q_add, nI_s1, nI_clamp, upd_same, nar0, nar1, c0, nf_at, nf_un, nI_lei, nI_inj, hkw, nk, e1, e2, z_ne, o_ne, ↓reduceIte]
          exact next
theorem shares {w y : Nat} (hc : c ≤ 8) (hi : Bo ins) (hm : ∀ j, j < c → (mg j = 0 ∨ mg j = 1)) (hw : w < c) {o1 o2 : Int32} : One (lp (b_X1_share_64 (pd, mg, nI t) (nI w) o1 o2 (nI y)) FU (nI 0, (nI c, nI m, nI q, nI B, nI g, nf P, gu, nf b, aw, ta, ins, nf F, nf O, nf G, nf H, nf S, nf D))) (fun e => ∃ P' H', e = (nI c, (nI c, nI m, nI q, nI B, nI g, nf P', gu, nf b, aw, ta, ins, nf F, nf O, nf G, nf H', nf S, nf D)) ∧ su c P' = su c P + y * othN ins mg w c ∧ (∀ j, c ≤ j → P' j = P j ∧ H' j = H j)) := by
  refine lp_one (fun n s => ∃ k P' H', s = (nI k, (nI c, nI m, nI q, nI B, nI g, nf P', gu, nf b, aw, ta, ins, nf F, nf O, nf G, nf H', nf S, nf D)) ∧ k ≤ c ∧ n = c - k ∧ su c P' = su c P + y * othN ins mg w k ∧ (∀ j, c ≤ j → P' j = P j ∧ H' j = H j)) _ ?_ (n := c) ⟨0, P, H, rfl, by omega, by omega, rfl, fun j _ => ⟨rfl, rfl⟩⟩ (FU_gt (by omega))
  rintro n s ⟨k, P', H', rfl, h1, rfl, h2, h3⟩ J hJ
  by_cases h : k = c
  · subst h
    simp (disch := omega) only [b_X1_share_64, St_count, St_month, St_contribution, St_box, St_given, St_purse, St_guarantor, St_bid, St_away, St_taken, St_inside, St_paidForItself, St_paidForOthers, St_gotOfPot, St_shares, St_misses, St_debt, St_count_s, St_month_s, St_contribution_s, St_box_s, St_given_s, St_purse_s, St_guarantor_s, St_bid_s, St_away_s, St_taken_s, St_inside_s, St_paidForItself_s, St_paidForOthers_s, St_gotOfPot_s, St_shares_s, St_misses_s, St_debt_s, Rd_paid, Rd_missing, Rd_pence, Rd_paid_s, Rd_missing_s, Rd_pence_s, mul8, lt_e, bd_s, gi_ok, gz2, q_add, nI_s1, nI_clamp, upd_same, nar0, nar1, c0, nf_at, nf_un, nI_lei, Nat.le_refl, ↓reduceIte]
    exact ⟨P', H', rfl, h2, h3⟩
  · have hk : k < c := by omega
    have nk : ¬ c ≤ k := by omega
    have skip : oth ins mg w k = false → J (nI (k + 1), (nI c, nI m, nI q, nI B, nI g, nf P', gu, nf b, aw, ta, ins, nf F, nf O, nf G, nf H', nf S, nf D)) := fun q => hJ _ _ (by omega) ⟨k + 1, _, _, rfl, by omega, rfl, by rw [h2, othN_s, q]; rfl, h3⟩
    by_cases hkw : k = w
    · subst hkw
      simp (disch := omega) only [b_X1_share_64, St_count, St_month, St_contribution, St_box, St_given, St_purse, St_guarantor, St_bid, St_away, St_taken, St_inside, St_paidForItself, St_paidForOthers, St_gotOfPot, St_shares, St_misses, St_debt, St_count_s, St_month_s, St_contribution_s, St_box_s, St_given_s, St_purse_s, St_guarantor_s, St_bid_s, St_away_s, St_taken_s, St_inside_s, St_paidForItself_s, St_paidForOthers_s, St_gotOfPot_s, St_shares_s, St_misses_s, St_debt_s, Rd_paid, Rd_missing, Rd_pence, Rd_paid_s, Rd_missing_s, Rd_pence_s, mul8, lt_e, bd_s, gi_ok, gz2, q_add, nI_s1, nI_clamp, upd_same, nar0, nar1, c0, nf_at, nf_un, nI_lei, nk, ↓reduceIte]
      exact skip oth_eq
    · rcases hi k with e1 | e1
      · simp (disch := omega) only [b_X1_share_64, part_x hk hc, St_count, St_month, St_contribution, St_box, St_given, St_purse, St_guarantor, St_bid, St_away, St_taken, St_inside, St_paidForItself, St_paidForOthers, St_gotOfPot, St_shares, St_misses, St_debt, St_count_s, St_month_s, St_contribution_s, St_box_s, St_given_s, St_purse_s, St_guarantor_s, St_bid_s, St_away_s, St_taken_s, St_inside_s, St_paidForItself_s, St_paidForOthers_s, St_gotOfPot_s, St_shares_s, St_misses_s, St_debt_s, Rd_paid, Rd_missing, Rd_pence, Rd_paid_s, Rd_missing_s, Rd_pence_s, mul8, lt_e, bd_s, gi_ok, gz2, q_add, nI_s1, nI_clamp, upd_same, nar0, nar1, c0, nf_at, nf_un, nI_lei, nI_inj, hkw, nk, e1, ↓reduceIte]
        exact skip (oth_no (Or.inl e1))
      · rcases hm k hk with e2 | e2
        · simp (disch := omega) only [b_X1_share_64, part_x hk hc, St_count, St_month, St_contribution, St_box, St_given, St_purse, St_guarantor, St_bid, St_away, St_taken, St_inside, St_paidForItself, St_paidForOthers, St_gotOfPot, St_shares, St_misses, St_debt, St_count_s, St_month_s, St_contribution_s, St_box_s, St_given_s, St_purse_s, St_guarantor_s, St_bid_s, St_away_s, St_taken_s, St_inside_s, St_paidForItself_s, St_paidForOthers_s, St_gotOfPot_s, St_shares_s, St_misses_s, St_debt_s, Rd_paid, Rd_missing, Rd_pence, Rd_paid_s, Rd_missing_s, Rd_pence_s, mul8, lt_e, bd_s, gi_ok, gz2, q_add, nI_s1, nI_clamp, upd_same, nar0, nar1, c0, nf_at, nf_un, nI_lei, nI_inj, hkw, nk, e1, e2, z_ne, o_ne, ↓reduceIte]
          refine hJ _ _ (by omega) ⟨k + 1, _, _, rfl, by omega, rfl, ?_, fun j hj => ⟨by rw [un_ne (by omega)]; exact (h3 j hj).1, by rw [un_ne (by omega)]; exact (h3 j hj).2⟩⟩
          have s1 := su_un (x := P' k + y) (f := P') hk
          have s2 : othN ins mg w (k + 1) = othN ins mg w k + 1 := by rw [othN_s, oth_yes hkw e1 e2]; rfl
          rw [s2, Nat.mul_succ]
          omega
        · simp (disch := omega) only [b_X1_share_64, part_x hk hc, St_count, St_month, St_contribution, St_box, St_given, St_purse, St_guarantor, St_bid, St_away, St_taken, St_inside, St_paidForItself, St_paidForOthers, St_gotOfPot, St_shares, St_misses, St_debt, St_count_s, St_month_s, St_contribution_s, St_box_s, St_given_s, St_purse_s, St_guarantor_s, St_bid_s, St_away_s, St_taken_s, St_inside_s, St_paidForItself_s, St_paidForOthers_s, St_gotOfPot_s, St_shares_s, St_misses_s, St_debt_s, Rd_paid, Rd_missing, Rd_pence, Rd_paid_s, Rd_missing_s, Rd_pence_s, mul8, lt_e, bd_s, gi_ok, gz2, q_add, nI_s1, nI_clamp, upd_same, nar0, nar1, c0, nf_at, nf_un, nI_lei, nI_inj, hkw, nk, e1, e2, z_ne, o_ne, ↓reduceIte]
          exact skip (oth_no (Or.inr e2))
theorem share {w : Nat} (hc : c ≤ 8) (hi : Bo ins) (hm : ∀ j, j < c → (mg j = 0 ∨ mg j = 1)) (hw : w < c) (ht : t ≤ 1000) (hb : ∀ j, b j ≤ 999) : ∃ P' H' B', f_X1_share (pd, mg, nI t) (nI c, nI m, nI q, nI B, nI g, nf P, gu, nf b, aw, ta, ins, nf F, nf O, nf G, nf H, nf S, nf D) (nI w) = some ((), (nI c, nI m, nI q, nI B', nI g, nf P', gu, nf b, aw, ta, ins, nf F, nf O, nf G, nf H', nf S, nf D)) ∧ B' + su c P' = B + su c P + kb t b w ∧ (∀ j, c ≤ j → P' j = P j ∧ H' j = H j) := by
  obtain ⟨e, a1, rfl⟩ := on_get (others (pd := pd) (t := t) (m := m) (q := q) (B := B) (g := g) (P := P) (gu := gu) (b := b) (aw := aw) (ta := ta) (F := F) (O := O) (G := G) (H := H) (S := S) (D := D) hc hi hm hw)
  have a1 : lp (b_X1_share_5 (pd, mg, nI t) (nI c, nI m, nI q, nI B, nI g, nf P, gu, nf b, aw, ta, ins, nf F, nf O, nf G, nf H, nf S, nf D) (nI w)) FU ((0:Int32), (0:Int32)) = _ := a1
  have hN := othN_le (ins := ins) (mg := mg) (w := w) c
  have hk := kb_half t b w
  have cb := bid_x (pd := pd) (mg := mg) (pn := nI t) (mo := nI m) (co := nI q) (bo := nI B) (gv := nI g) (pu := nf P) (gu := gu) (bi := nf b) (aw := aw) (ta := ta) (ins := ins) (pf := nf F) (po := nf O) (go := nf G) (sh := nf H) (ms := nf S) (de := nf D) hw hc
  rw [cbd_kb ht hb] at cb
  obtain ⟨N, eN⟩ : ∃ N, othN ins mg w c = N := ⟨_, rfl⟩
  rw [eN] at a1 hN
  by_cases h0 : N = 0
  · subst h0
    obtain ⟨e, a2, P', H', rfl, b1, b2⟩ := on_get (shares (pd := pd) (mg := mg) (t := t) (w := w) (y := 0) (o1 := nI 0) (o2 := nI (kb t b w)) (m := m) (q := q) (B := B) (g := g) (P := P) (gu := gu) (b := b) (aw := aw) (ta := ta) (F := F) (O := O) (G := G) (H := H) (S := S) (D := D) hc hi hm hw)
    have a2 : lp (b_X1_share_64 (pd, mg, nI t) (nI w) (nI 0) (nI (kb t b w)) (0:Int32)) FU ((0:Int32), (nI c, nI m, nI q, nI B, nI g, nf P, gu, nf b, aw, ta, ins, nf F, nf O, nf G, nf H, nf S, nf D)) = _ := a2
    refine ⟨P', H', B + kb t b w, ?_, by omega, b2⟩
    have z : nI B + (nI (kb t b w) - (0:Int32) * nI 0) = nI (B + kb t b w) := by rw [Int32.zero_mul, Int32.sub_zero, q_add]
    simp (disch := omega) only [f_X1_share, a1, a2, cb, bd_s, St_count, St_month, St_contribution, St_box, St_given, St_purse, St_guarantor, St_bid, St_away, St_taken, St_inside, St_paidForItself, St_paidForOthers, St_gotOfPot, St_shares, St_misses, St_debt, St_count_s, St_month_s, St_contribution_s, St_box_s, St_given_s, St_purse_s, St_guarantor_s, St_bid_s, St_away_s, St_taken_s, St_inside_s, St_paidForItself_s, St_paidForOthers_s, St_gotOfPot_s, St_shares_s, St_misses_s, St_debt_s, Rd_paid, Rd_missing, Rd_pence, Rd_paid_s, Rd_missing_s, Rd_pence_s, lt_e, ge0, Nat.le_refl, z, ↓reduceIte]
  · have n0 : ¬ N ≤ 0 := by omega
    have nz : ¬ nI N = 0 := fun q => h0 ((nI_inj (b := 0) (by omega) (by omega)).mp q)
    obtain ⟨e, a2, P', H', rfl, b1, b2⟩ := on_get (shares (pd := pd) (mg := mg) (t := t) (w := w) (y := kb t b w / N) (o1 := nI N) (o2 := nI (kb t b w)) (m := m) (q := q) (B := B) (g := g) (P := P) (gu := gu) (b := b) (aw := aw) (ta := ta) (F := F) (O := O) (G := G) (H := H) (S := S) (D := D) hc hi hm hw)
    have a2 : lp (b_X1_share_64 (pd, mg, nI t) (nI w) (nI N) (nI (kb t b w)) (nI (kb t b w / N))) FU ((0:Int32), (nI c, nI m, nI q, nI B, nI g, nf P, gu, nf b, aw, ta, ins, nf F, nf O, nf G, nf H, nf S, nf D)) = _ := a2
    have dv : kb t b w / N * N ≤ kb t b w := Nat.div_mul_le_self _ _
    rw [eN] at b1
    refine ⟨P', H', B + (kb t b w - kb t b w / N * N), ?_, by omega, b2⟩
    have z : nI B + (nI (kb t b w) - nI (kb t b w / N) * nI N) = nI (B + (kb t b w - kb t b w / N * N)) := by rw [q_mul, nI_sub dv, q_add]
    simp (disch := omega) only [f_X1_share, a1, a2, cb, bd_s, St_count, St_month, St_contribution, St_box, St_given, St_purse, St_guarantor, St_bid, St_away, St_taken, St_inside, St_paidForItself, St_paidForOthers, St_gotOfPot, St_shares, St_misses, St_debt, St_count_s, St_month_s, St_contribution_s, St_box_s, St_given_s, St_purse_s, St_guarantor_s, St_bid_s, St_away_s, St_taken_s, St_inside_s, St_paidForItself_s, St_paidForOthers_s, St_gotOfPot_s, St_shares_s, St_misses_s, St_debt_s, Rd_paid, Rd_missing, Rd_pence, Rd_paid_s, Rd_missing_s, Rd_pence_s, lt_e, ge0, n0, nz, gz, nI_div, z, ↓reduceIte]
end SHARE
