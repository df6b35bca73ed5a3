/-! the simulation -/
theorem r_nat (y : UInt64) (h : y.toNat < 2147483648) : y.toInt64.toInt32 = nI y.toNat := by
  refine Int32.toInt.inj ?_
  have e : y.toInt64.toInt = (y.toNat : Int) := by
    show y.toBitVec.toInt = _
    rw [BitVec.toInt_eq_toNat_of_lt]
    · rfl
    · show 2 * y.toNat < 2 ^ 64
      omega
  rw [Int64.toInt_toInt32, e, nI_toInt (by simpa using h)]
  refine Int.bmod_eq_of_le ?_ ?_ <;> omega
theorem r_is (x : Int64) : ∃ k, k < 2147483648 ∧ ((x.toUInt64 >>> ((33:Int32).toInt64.toUInt64 &&& Int64.toUInt64 63)).toInt64).toInt32 = nI k := by
  have hs : ((33:Int32).toInt64.toUInt64 &&& Int64.toUInt64 63) = (33:UInt64) := by decide
  rw [hs]
  have h : (x.toUInt64 >>> (33:UInt64)).toNat < 2147483648 := by
    rw [UInt64.toNat_shiftRight]
    have h1 : (33:UInt64).toNat % 64 = 33 := by decide
    rw [h1, Nat.shiftRight_eq_div_pow]
    have h2 := x.toUInt64.toNat_lt
    omega
  exact ⟨_, h, r_nat _ h⟩
section SIM
variable {th : Int32} {z past : Nat → Int32} {pm : Int32} {sl sv sp tx : Nat → Int32} {ty : Int32} {hp mi : Nat → Int32} {pot : Int32} {rd : Nat → Int32} {spt wr : Int32}
variable {c m : Nat} {v : StV}
theorem sim_bid {k : Nat} (hk : k < 2147483648) : (nI k / (8:Int32)) - (nI k / (8:Int32)) / (40:Int32) * (40:Int32) = nI (k / 8 % 40) := by
  have e : nI k / (8:Int32) = nI (k / 8) := nI_div (b := 8) hk (by omega)
  rw [e]
  exact nI_rem (b := 40) (by omega) (by omega)
theorem sim_in (g : Gs c m v z) (hm : m ≤ 99) {w0 : StV} {r : RdV} {p3 p4 p7 q3 q4 q7 : Int32} {x : Int64} : Two (lp (b_X5_simulate_42 w0 r p3 p4 p7) FU (x, (0:Int32), v)) (lp (b_X6_simulate_57 q3 q4 q7) FU (x, (0:Int32), (th, z, past, pm, sl, sv, sp, tx, ty, hp, mi, pot, rd, spt, wr))) (fun e f => ∃ x' v' z', e = (x', nI c, v') ∧ f = (x', nI c, (th, z', past, pm, sl, sv, sp, tx, ty, hp, mi, pot, rd, spt, wr)) ∧ Gs c m v' z') := by
  refine lp_two (fun n s t => ∃ k x' v' z', s = (x', nI k, v') ∧ t = (x', nI k, (th, z', past, pm, sl, sv, sp, tx, ty, hp, mi, pot, rd, spt, wr)) ∧ Gs c m v' z' ∧ k ≤ c ∧ n = c - k) _ ?_ (n := c) ⟨0, x, v, z, rfl, rfl, g, by omega, by omega⟩ (FU_gt (by have := g.cnt.1; omega))
  rintro n s t ⟨k, x', v', z', rfl, rfl, g', h1, rfl⟩ J hJ
  obtain ⟨hc, n1, n0, -, -⟩ := g'.cnt
  have n1' : v'.1 = nI c := n1
  by_cases h : k = c
  · subst h
    simp (disch := omega) only [b_X5_simulate_42, b_X6_simulate_57, n1', n0, St_count, St_month, St_contribution, St_box, St_given, St_purse, St_guarantor, St_bid, St_away, St_taken, St_inside, St_paidForItself, St_paidForOthers, St_gotOfPot, St_shares, St_misses, St_debt, St_count_s, St_month_s, St_contribution_s, St_box_s, St_given_s, St_purse_s, St_guarantor_s, St_bid_s, St_away_s, St_taken_s, St_inside_s, St_paidForItself_s, St_paidForOthers_s, St_gotOfPot_s, St_shares_s, St_misses_s, St_debt_s, Rd_paid, Rd_missing, Rd_pence, Rd_paid_s, Rd_missing_s, Rd_pence_s, Md_thrown, Md_z, Md_past, Md_pastMany, Md_slots, Md_isSaved, Md_spare, Md_text, Md_typed, Md_hasPaid, Md_misses, Md_potNow, Md_read, Md_spot, Md_wrong, Md_thrown_s, Md_z_s, Md_past_s, Md_pastMany_s, Md_slots_s, Md_isSaved_s, Md_spare_s, Md_text_s, Md_typed_s, Md_hasPaid_s, Md_misses_s, Md_potNow_s, Md_read_s, Md_spot_s, Md_wrong_s, g0_157, c0, nI_lei, Nat.le_refl, ↓reduceIte]
    exact ⟨x', v', z', rfl, rfl, g'⟩
  · have hk : k < c := by omega
    have nc : ¬ c ≤ k := by omega
    simp (disch := omega) only [b_X5_simulate_42, b_X6_simulate_57, n1', n0, St_count, St_month, St_contribution, St_box, St_given, St_purse, St_guarantor, St_bid, St_away, St_taken, St_inside, St_paidForItself, St_paidForOthers, St_gotOfPot, St_shares, St_misses, St_debt, St_count_s, St_month_s, St_contribution_s, St_box_s, St_given_s, St_purse_s, St_guarantor_s, St_bid_s, St_away_s, St_taken_s, St_inside_s, St_paidForItself_s, St_paidForOthers_s, St_gotOfPot_s, St_shares_s, St_misses_s, St_debt_s, Rd_paid, Rd_missing, Rd_pence, Rd_paid_s, Rd_missing_s, Rd_pence_s, Md_thrown, Md_z, Md_past, Md_pastMany, Md_slots, Md_isSaved, Md_spare, Md_text, Md_typed, Md_hasPaid, Md_misses, Md_potNow, Md_read, Md_spot, Md_wrong, Md_thrown_s, Md_z_s, Md_past_s, Md_pastMany_s, Md_slots_s, Md_isSaved_s, Md_spare_s, Md_text_s, Md_typed_s, Md_hasPaid_s, Md_misses_s, Md_potNow_s, Md_read_s, Md_spot_s, Md_wrong_s, mul8, mul8r, lt_e, bd_s, gi_ok, gz2, gz8, gz40, q_add, nI_s1, nI_clamp, upd_same, nar0, nar1, c0, c1, c2, c3, c4, g0_157, g1_157, g2_157, g3_157, g4_157, g0_1, a5, a13, a21, a29, a37, a45, a53, a61, a69, a77, a85, a93, nI_lei, nc, ↓reduceIte]
    generalize x' * (6364136223846793005:Int64) + (1442695040888963407:Int64) = y
    obtain ⟨q, hq, hr⟩ := r_is y
    rw [hr]
    have next : ∀ v2 z2, Gs c m v2 z2 → J (y, nI (k + 1), v2) (y, nI (k + 1), (th, z2, past, pm, sl, sv, sp, tx, ty, hp, mi, pot, rd, spt, wr)) := fun v2 z2 g2 => hJ _ _ _ (by omega) ⟨k + 1, y, v2, z2, rfl, rfl, g2, by omega, rfl⟩
    obtain ⟨i1, i2⟩ := g'.ins hk
    obtain ⟨t1, t2⟩ := g'.tak hk
    rcases i2 with e | e
    · rw [e] at i1
      have d : f_X3_decide v' (nI k) (nI q) = some ((), v') := by
        have e' : v'.2.2.2.2.2.2.2.2.2.2.1 k = 0 := e
        simp (disch := omega) only [f_X3_decide, St_count, St_month, St_contribution, St_box, St_given, St_purse, St_guarantor, St_bid, St_away, St_taken, St_inside, St_paidForItself, St_paidForOthers, St_gotOfPot, St_shares, St_misses, St_debt, St_count_s, St_month_s, St_contribution_s, St_box_s, St_given_s, St_purse_s, St_guarantor_s, St_bid_s, St_away_s, St_taken_s, St_inside_s, St_paidForItself_s, St_paidForOthers_s, St_gotOfPot_s, St_shares_s, St_misses_s, St_debt_s, Rd_paid, Rd_missing, Rd_pence, Rd_paid_s, Rd_missing_s, Rd_pence_s, Md_thrown, Md_z, Md_past, Md_pastMany, Md_slots, Md_isSaved, Md_spare, Md_text, Md_typed, Md_hasPaid, Md_misses, Md_potNow, Md_read, Md_spot, Md_wrong, Md_thrown_s, Md_z_s, Md_past_s, Md_pastMany_s, Md_slots_s, Md_isSaved_s, Md_spare_s, Md_text_s, Md_typed_s, Md_hasPaid_s, Md_misses_s, Md_potNow_s, Md_read_s, Md_spot_s, Md_wrong_s, mul8, mul8r, lt_e, bd_s, gi_ok, gz2, gz8, gz40, q_add, nI_s1, nI_clamp, upd_same, nar0, nar1, c0, c1, c2, c3, c4, g0_157, g1_157, g2_157, g3_157, g4_157, g0_1, a5, a13, a21, a29, a37, a45, a53, a61, a69, a77, a85, a93, e', ↓reduceIte]
      simp only [d, bd_s, i1, z_ne, ↓reduceIte]
      exact next _ _ g'
    · rw [e] at i1
      have e' : v'.2.2.2.2.2.2.2.2.2.2.1 k = 1 := e
      simp only [i1, ↓reduceIte]
      have both : ∀ (K : (Int64 × Int32 × StV) → (Int64 × Int32 × MdV) → Prop) (a : Int32), (a = 0 ∨ a = 1) → (f_X3_decide v' (nI k) (nI q) = (if v'.2.2.2.2.2.2.2.2.2.1 k = (0:Int32) then some ((), St_bid_s (St_away_s v' (upd (St_away v') k a)) (upd (St_bid v') k (nI (q / 8 % 40)))) else some ((), St_away_s v' (upd (St_away v') k a)))) → Stt (bd (f_X3_decide v' (nI k) (nI q)) (fun q10 => some (Sum.inl (y, nI (k + 1), q10.2)))) (if upd z' (29 + k) a (37 + k) = (0:Int32) then some (Sum.inl (y, nI (k + 1), (th, upd (upd z' (29 + k) a) (21 + k) (nI (q / 8 % 40)), past, pm, sl, sv, sp, tx, ty, hp, mi, pot, rd, spt, wr))) else some (Sum.inl (y, nI (k + 1), (th, upd (upd z' (29 + k) a) (21 + k) (upd z' (29 + k) a (21 + k)), past, pm, sl, sv, sp, tx, ty, hp, mi, pot, rd, spt, wr)))) J K := by
        intro K a ha d
        have ga := g'.away hk ha
        have hz : upd z' (29 + k) a (37 + k) = z' (37 + k) := upd_ne (by omega)
        rw [d, hz, t1]
        have t2' : v'.2.2.2.2.2.2.2.2.2.1 k = 0 ∨ v'.2.2.2.2.2.2.2.2.2.1 k = 1 := t2
        rcases t2' with w | w
        · have w' : St_taken v' k = 0 := w
          rw [if_pos w, if_pos w']
          exact next _ _ (ga.bidded hk (x := q / 8 % 40) (by omega))
        · have w0 : ¬ v'.2.2.2.2.2.2.2.2.2.1 k = 0 := by rw [w]; decide
          have w' : ¬ St_taken v' k = 0 := w0
          rw [if_neg w0, if_neg w', upd_self]
          exact next _ _ ga
      by_cases hz : (nI q - nI q / (8:Int32) * (8:Int32)) = (0:Int32)
      · have b := fun K => both K 1 (Or.inr rfl) (by simp (disch := omega) only [f_X3_decide, St_count, St_month, St_contribution, St_box, St_given, St_purse, St_guarantor, St_bid, St_away, St_taken, St_inside, St_paidForItself, St_paidForOthers, St_gotOfPot, St_shares, St_misses, St_debt, St_count_s, St_month_s, St_contribution_s, St_box_s, St_given_s, St_purse_s, St_guarantor_s, St_bid_s, St_away_s, St_taken_s, St_inside_s, St_paidForItself_s, St_paidForOthers_s, St_gotOfPot_s, St_shares_s, St_misses_s, St_debt_s, Rd_paid, Rd_missing, Rd_pence, Rd_paid_s, Rd_missing_s, Rd_pence_s, Md_thrown, Md_z, Md_past, Md_pastMany, Md_slots, Md_isSaved, Md_spare, Md_text, Md_typed, Md_hasPaid, Md_misses, Md_potNow, Md_read, Md_spot, Md_wrong, Md_thrown_s, Md_z_s, Md_past_s, Md_pastMany_s, Md_slots_s, Md_isSaved_s, Md_spare_s, Md_text_s, Md_typed_s, Md_hasPaid_s, Md_misses_s, Md_potNow_s, Md_read_s, Md_spot_s, Md_wrong_s, mul8, mul8r, lt_e, bd_s, gi_ok, gz2, gz8, gz40, q_add, nI_s1, nI_clamp, upd_same, nar0, nar1, c0, c1, c2, c3, c4, g0_157, g1_157, g2_157, g3_157, g4_157, g0_1, a5, a13, a21, a29, a37, a45, a53, a61, a69, a77, a85, a93, e', hz, sim_bid, nar1, o_ne, ↓reduceIte])
        simp (disch := omega) only [hz, mul8, mul8r, lt_e, bd_s, gi_ok, gz2, gz8, gz40, q_add, nI_s1, nI_clamp, upd_same, nar0, nar1, c0, c1, c2, c3, c4, g0_157, g1_157, g2_157, g3_157, g4_157, g0_1, a5, a13, a21, a29, a37, a45, a53, a61, a69, a77, a85, a93, sim_bid, ↓reduceIte] at b ⊢
        exact b _
      · have b := fun K => both K 0 (Or.inl rfl) (by simp (disch := omega) only [f_X3_decide, St_count, St_month, St_contribution, St_box, St_given, St_purse, St_guarantor, St_bid, St_away, St_taken, St_inside, St_paidForItself, St_paidForOthers, St_gotOfPot, St_shares, St_misses, St_debt, St_count_s, St_month_s, St_contribution_s, St_box_s, St_given_s, St_purse_s, St_guarantor_s, St_bid_s, St_away_s, St_taken_s, St_inside_s, St_paidForItself_s, St_paidForOthers_s, St_gotOfPot_s, St_shares_s, St_misses_s, St_debt_s, Rd_paid, Rd_missing, Rd_pence, Rd_paid_s, Rd_missing_s, Rd_pence_s, Md_thrown, Md_z, Md_past, Md_pastMany, Md_slots, Md_isSaved, Md_spare, Md_text, Md_typed, Md_hasPaid, Md_misses, Md_potNow, Md_read, Md_spot, Md_wrong, Md_thrown_s, Md_z_s, Md_past_s, Md_pastMany_s, Md_slots_s, Md_isSaved_s, Md_spare_s, Md_text_s, Md_typed_s, Md_hasPaid_s, Md_misses_s, Md_potNow_s, Md_read_s, Md_spot_s, Md_wrong_s, mul8, mul8r, lt_e, bd_s, gi_ok, gz2, gz8, gz40, q_add, nI_s1, nI_clamp, upd_same, nar0, nar1, c0, c1, c2, c3, c4, g0_157, g1_157, g2_157, g3_157, g4_157, g0_1, a5, a13, a21, a29, a37, a45, a53, a61, a69, a77, a85, a93, e', hz, sim_bid, nar0, o_ne, ↓reduceIte])
        simp (disch := omega) only [hz, mul8, mul8r, lt_e, bd_s, gi_ok, gz2, gz8, gz40, q_add, nI_s1, nI_clamp, upd_same, nar0, nar1, c0, c1, c2, c3, c4, g0_157, g1_157, g2_157, g3_157, g4_157, g0_1, a5, a13, a21, a29, a37, a45, a53, a61, a69, a77, a85, a93, sim_bid, ↓reduceIte] at b ⊢
        exact b _
theorem sim_out (g : Gs c m v z) (hm : m ≤ 99) {w0 : StV} {r : RdV} {p4 q4 : Int32} {Q : Nat} (hQ : Q ≤ 40) {x : Int64} : Two (lp (b_X5_simulate_33 w0 (nI Q) p4) FU (x, (0:Int32), v, r)) (lp (b_X6_simulate_48 (nI Q) q4) FU (x, (0:Int32), (th, z, past, pm, sl, sv, sp, tx, ty, hp, mi, pot, rd, spt, wr))) (fun e f => ∃ x' m' v' r' z' hp' mi' pot', e = (x', nI Q, v', r') ∧ f = (x', nI Q, (th, z', past, pm, sl, sv, sp, tx, ty, hp', mi', pot', rd, spt, wr)) ∧ Gs c m' v' z') := by
  refine lp_two (fun n s t => ∃ k x' m' v' r' z' hp' mi' pot', s = (x', nI k, v', r') ∧ t = (x', nI k, (th, z', past, pm, sl, sv, sp, tx, ty, hp', mi', pot', rd, spt, wr)) ∧ Gs c m' v' z' ∧ m' ≤ 99 ∧ k ≤ Q ∧ n = Q - k) _ ?_ (n := Q) ⟨0, x, m, v, r, z, hp, mi, pot, rfl, rfl, g, hm, by omega, by omega⟩ (FU_gt (by omega))
  rintro n s t ⟨k, x', m', v', r', z', hp', mi', pot', rfl, rfl, g', hm', h1, rfl⟩ J hJ
  by_cases h : k = Q
  · subst h
    simp (disch := omega) only [b_X5_simulate_33, b_X6_simulate_48, nI_lei, Nat.le_refl, ↓reduceIte]
    exact ⟨x', m', v', r', z', hp', mi', pot', rfl, rfl, g'⟩
  · have nQ : ¬ Q ≤ k := by omega
    obtain ⟨_, _, e1, e2, x2, v2, z2, rfl, rfl, g2⟩ := tw_get (sim_in (w0 := w0) (r := r') (p3 := nI Q) (p4 := p4) (p7 := nI k) (q3 := nI Q) (q4 := q4) (q7 := nI k) (x := x') (th := th) (past := past) (pm := pm) (sl := sl) (sv := sv) (sp := sp) (tx := tx) (ty := ty) (hp := hp') (mi := mi') (pot := pot') (rd := rd) (spt := spt) (wr := wr) g' hm')
    obtain ⟨b, hb, c1, c3⟩ := g2.may (th := th) (past := past) (pm := pm) (sl := sl) (sv := sv) (sp := sp) (tx := tx) (ty := ty) (hp := hp') (mi := mi') (pot := pot') (rd := rd) (spt := spt) (wr := wr) (by omega)
    rcases hb with rfl | ⟨rfl, hm9⟩
    · simp (disch := omega) only [b_X5_simulate_33, b_X6_simulate_48, nI_lei, nQ, e1, e2, c1, c3, bd_s, lt_e, nI_s1, ↓reduceIte]
      exact hJ _ _ _ (by omega) ⟨k + 1, x2, m', v2, r', z2, hp', mi', pot', rfl, rfl, g2, hm', by omega, rfl⟩
    · obtain ⟨w, r3, v3, z3, hp3, mi3, -, e3, e4, g3, -, -⟩ := g2.pass (r := r') (th := th) (past := past) (pm := pm) (sl := sl) (sv := sv) (sp := sp) (tx := tx) (ty := ty) (hp := hp') (mi := mi') (pot := pot') (rd := rd) (spt := spt) (wr := wr) (by omega)
      simp (disch := omega) only [b_X5_simulate_33, b_X6_simulate_48, nI_lei, nQ, e1, e2, e3, e4, c1, c3, bd_s, lt_e, nI_s1, o_ne, ↓reduceIte]
      exact hJ _ _ _ (by omega) ⟨k + 1, x2, m' + 1, v3, r3, z3, hp3, mi3, Rd_pence r3, rfl, rfl, g3, by omega, by omega, rfl⟩
theorem try_simulate (hv : Now v z) (t0 : StV) (r : RdV) (x : Int64) (i : Int32) : Two (f_X5_simulate v t0 r x i) (f_X6_simulate (th, z, past, pm, sl, sv, sp, tx, ty, hp, mi, pot, rd, spt, wr) x i) (Ans (fun s k => s = IAE ∧ k = 1) (fun (_ : StV × RdV) q => ∃ t sp' hp' mi' pot', q = (t, z, past, pm, sl, sv, sp', tx, ty, hp', mi', pot', rd, spt, wr))) := by
  obtain ⟨c, m, hm, g⟩ := hv
  rcases rng2 i 1 40 (by omega) (by omega) with hb | ⟨Q, hq1, hQ, rfl⟩
  · have e1 : f_X5_requireRange i (1:Int32) (40:Int32) = some (.inr (IAE, ())) := rr_no hb
    have e2 : f_X6_in i (1:Int32) (40:Int32) = some ((0:Int32), ()) := in_no hb
    refine tw_mk (a := .inr (IAE, (t0, r))) (b := ((0:Int32), (1, z, past, pm, sl, sv, sp, tx, ty, hp, mi, pot, rd, spt, wr))) ?_ ?_ ⟨1, ⟨rfl, rfl⟩, rfl, 1, sp, hp, mi, pot, rfl⟩
    · simp only [f_X5_simulate, e1, bx_r]
    · rw [f_X6_simulate, e2]
      simp only [bd_s, lt_e, St_count, St_month, St_contribution, St_box, St_given, St_purse, St_guarantor, St_bid, St_away, St_taken, St_inside, St_paidForItself, St_paidForOthers, St_gotOfPot, St_shares, St_misses, St_debt, St_count_s, St_month_s, St_contribution_s, St_box_s, St_given_s, St_purse_s, St_guarantor_s, St_bid_s, St_away_s, St_taken_s, St_inside_s, St_paidForItself_s, St_paidForOthers_s, St_gotOfPot_s, St_shares_s, St_misses_s, St_debt_s, Rd_paid, Rd_missing, Rd_pence, Rd_paid_s, Rd_missing_s, Rd_pence_s, Md_thrown, Md_z, Md_past, Md_pastMany, Md_slots, Md_isSaved, Md_spare, Md_text, Md_typed, Md_hasPaid, Md_misses, Md_potNow, Md_read, Md_spot, Md_wrong, Md_thrown_s, Md_z_s, Md_past_s, Md_pastMany_s, Md_slots_s, Md_isSaved_s, Md_spare_s, Md_text_s, Md_typed_s, Md_hasPaid_s, Md_misses_s, Md_potNow_s, Md_read_s, Md_spot_s, Md_wrong_s, ole, ↓reduceIte]
  · have e1 : f_X5_requireRange (nI Q) (1:Int32) (40:Int32) = some (.inl ((), ())) := rr_k (lo := 1) (hi := 40) hq1 hQ (by omega)
    have e2 : f_X6_in (nI Q) (1:Int32) (40:Int32) = some ((1:Int32), ()) := in_k2 (lo := 1) (hi := 40) hq1 hQ (by omega)
    obtain ⟨t, c1, g1⟩ := g.copy t0
    obtain ⟨sp', a1, hs⟩ := aside_f (th := (0:Int32)) (z := z) (past := past) (pm := pm) (sl := sl) (sv := sv) (sp := sp) (tx := tx) (ty := ty) (hp := hp) (mi := mi) (pot := pot) (rd := rd) (spt := spt) (wr := wr)
    obtain ⟨y0, s1, s2⟩ := g1.sumMisses (th := (0:Int32)) (past := past) (pm := pm) (sl := sl) (sv := sv) (sp := sp') (tx := tx) (ty := ty) (hp := hp) (mi := mi) (pot := pot) (rd := rd) (spt := spt) (wr := wr)
    obtain ⟨_, _, l1, l2, x', m', v', r', z', hp', mi', pot', rfl, rfl, g2⟩ := tw_get (sim_out (w0 := v) (r := r) (p4 := y0) (q4 := y0) (Q := Q) (x := x) (th := (0:Int32)) (past := past) (pm := pm) (sl := sl) (sv := sv) (sp := sp') (tx := tx) (ty := ty) (hp := hp) (mi := mi) (pot := pot) (rd := rd) (spt := spt) (wr := wr) g1 hm hQ)
    obtain ⟨y1, s3, s4⟩ := g2.sumMisses (th := (0:Int32)) (past := past) (pm := pm) (sl := sl) (sv := sv) (sp := sp') (tx := tx) (ty := ty) (hp := hp') (mi := mi') (pot := pot') (rd := rd) (spt := spt) (wr := wr)
    obtain ⟨y2, -, s5, s6⟩ := g2.sumTaken (th := (0:Int32)) (past := past) (pm := pm) (sl := sl) (sv := sv) (sp := sp') (tx := tx) (ty := ty) (hp := hp') (mi := mi') (pot := pot') (rd := rd) (spt := spt) (wr := wr)
    have bk := back_f (th := (0:Int32)) (z := z') (past := past) (pm := pm) (sl := sl) (sv := sv) (sp := sp') (tx := tx) (ty := ty) (hp := hp') (mi := mi') (pot := pot') (rd := rd) (spt := spt) (wr := wr) hs (g2.zero g)
    refine tw_mk (a := .inl ((1000:Int32) * nI y2 + (if (999:Int32) < y1 - y0 then (999:Int32) else y1 - y0), (v', r'))) (b := ((1000:Int32) * nI y2 + (if (999:Int32) < y1 - y0 then (999:Int32) else y1 - y0), (0, z, past, pm, sl, sv, sp', tx, ty, hp', mi', pot', rd, spt, wr))) ?_ ?_ ⟨rfl, rfl, 0, sp', hp', mi', pot', rfl⟩
    · simp only [f_X5_simulate, e1, bx_l, c1, s1, l1, s3, s5, bd_s, lt_e]
    · rw [f_X6_simulate, e2]
      by_cases h9 : (999:Int32) < y1 - y0
      · have h9' : ¬ y1 - y0 ≤ (999:Int32) := Int32.not_le.mpr h9
        simp only [bd_s, lt_e, St_count, St_month, St_contribution, St_box, St_given, St_purse, St_guarantor, St_bid, St_away, St_taken, St_inside, St_paidForItself, St_paidForOthers, St_gotOfPot, St_shares, St_misses, St_debt, St_count_s, St_month_s, St_contribution_s, St_box_s, St_given_s, St_purse_s, St_guarantor_s, St_bid_s, St_away_s, St_taken_s, St_inside_s, St_paidForItself_s, St_paidForOthers_s, St_gotOfPot_s, St_shares_s, St_misses_s, St_debt_s, Rd_paid, Rd_missing, Rd_pence, Rd_paid_s, Rd_missing_s, Rd_pence_s, Md_thrown, Md_z, Md_past, Md_pastMany, Md_slots, Md_isSaved, Md_spare, Md_text, Md_typed, Md_hasPaid, Md_misses, Md_potNow, Md_read, Md_spot, Md_wrong, Md_thrown_s, Md_z_s, Md_past_s, Md_pastMany_s, Md_slots_s, Md_isSaved_s, Md_spare_s, Md_text_s, Md_typed_s, Md_hasPaid_s, Md_misses_s, Md_potNow_s, Md_read_s, Md_spot_s, Md_wrong_s, o_ne, zle, a1, s2, l2, s4, s6, bk, h9, h9', ↓reduceIte]
      · have h9' : y1 - y0 ≤ (999:Int32) := Int32.not_lt.mp h9
        simp only [bd_s, lt_e, St_count, St_month, St_contribution, St_box, St_given, St_purse, St_guarantor, St_bid, St_away, St_taken, St_inside, St_paidForItself, St_paidForOthers, St_gotOfPot, St_shares, St_misses, St_debt, St_count_s, St_month_s, St_contribution_s, St_box_s, St_given_s, St_purse_s, St_guarantor_s, St_bid_s, St_away_s, St_taken_s, St_inside_s, St_paidForItself_s, St_paidForOthers_s, St_gotOfPot_s, St_shares_s, St_misses_s, St_debt_s, Rd_paid, Rd_missing, Rd_pence, Rd_paid_s, Rd_missing_s, Rd_pence_s, Md_thrown, Md_z, Md_past, Md_pastMany, Md_slots, Md_isSaved, Md_spare, Md_text, Md_typed, Md_hasPaid, Md_misses, Md_potNow, Md_read, Md_spot, Md_wrong, Md_thrown_s, Md_z_s, Md_past_s, Md_pastMany_s, Md_slots_s, Md_isSaved_s, Md_spare_s, Md_text_s, Md_typed_s, Md_hasPaid_s, Md_misses_s, Md_potNow_s, Md_read_s, Md_spot_s, Md_wrong_s, o_ne, zle, a1, s2, l2, s4, s6, bk, h9, h9', ↓reduceIte]
end SIM
