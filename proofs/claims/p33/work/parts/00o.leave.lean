/-! leaving -/
theorem nI_subneg {a b : Nat} (h : a < b) (hb : b < 1000000000) : nI a - nI b < (0:Int32) := pk_sneg (by omega) h
theorem neg_mul_nI (a b : Nat) : (-nI a) * nI b = -(nI (a * b)) := by rw [Int32.neg_mul, q_mul]
theorem add_neg_nI (a b : Nat) : nI a + -(nI b) = nI a - nI b := (Int32.sub_eq_add_neg _ _).symm
theorem sub_neg_nI (a b : Nat) : nI a - -(nI b) = nI (a + b) := by rw [Int32.sub_eq_add_neg, Int32.neg_neg, q_add]
section GO
variable {c m q B g : Nat} {P : Nat → Nat} {gu : Nat → Int32} {b : Nat → Nat} {aw ta ins : Nat → Int32} {F O G H S D : Nat → Nat}
variable {p : PaV} {l : List StV}
theorem leave_ok (h : OkW c m q B g P gu b aw ta ins F O G H S D) (tp : Top p l) (hl : l.length ≤ 13) {i : Nat} (hi : i < c) : ∃ v' p', f_L_leave (nI c, nI m, nI q, nI B, nI g, nf P, gu, nf b, aw, ta, ins, nf F, nf O, nf G, nf H, nf S, nf D) p (nI i) = some ((1:Int32), (v', p')) ∧ Top p' [] ∧ Ok c m q g v' ∧ (PB c (nI c, nI m, nI q, nI B, nI g, nf P, gu, nf b, aw, ta, ins, nf F, nf O, nf G, nf H, nf S, nf D) → PB c v') := by
  have hP9 := h.P9 i
  have h0 := h
  have z : Z8 (nI c, nI m, nI q, nI B, nI g, nf P, gu, nf b, aw, ta, ins, nf F, nf O, nf G, nf H, nf S, nf D) := Ok.z ⟨B, P, gu, b, aw, ta, ins, F, O, G, H, S, D, rfl, h⟩
  obtain ⟨p', e, t⟩ := tp.remember hl z
  obtain ⟨⟨g1, g2, g3, g4, g5⟩, g6, hg, ha, ht, hi', hb, hF, hD, hDb, zP, zgu, zb, za, zt, zi, zr⟩ := h
  have hc : ∀ {B' : Nat} {P' : Nat → Nat} {in' : Nat → Int32}, St_count (nI c, nI m, nI q, nI B', nI g, nf P', gu, nf b, aw, ta, in', nf F, nf O, nf G, nf H, nf S, nf D) = nI c := fun {_ _ _} => rfl
  have bi : Bo (upd ins i 0) := hi'.upd (Or.inl rfl)
  have hF1 := hF i
  have sP := su_ge (f := P) hi
  have m4 : f_X5_member (nI c, nI m, nI q, nI B, nI g, nf P, gu, nf b, aw, ta, ins, nf F, nf O, nf G, nf H, nf S, nf D) (nI i) (4:Int32) = some (ta i, ()) := mem_4 (n := c) hc hi (by omega) ht
  have m5 : f_X5_member (nI c, nI m, nI q, nI B, nI g, nf P, gu, nf b, aw, ta, ins, nf F, nf O, nf G, nf H, nf S, nf D) (nI i) (5:Int32) = some (ins i, ()) := mem_5 (n := c) hc hi (by omega) hi'
  have m6 : f_X5_member (nI c, nI m, nI q, nI B, nI g, nf P, gu, nf b, aw, ta, ins, nf F, nf O, nf G, nf H, nf S, nf D) (nI i) (6:Int32) = some (nI (F i), ()) := mem_6 (n := c) hc hi (by omega)
  have m0 : f_X5_member (nI c, nI m, nI q, nI B, nI g, nf P, gu, nf b, aw, ta, ins, nf F, nf O, nf G, nf H, nf S, nf D) (nI i) (0:Int32) = some (nI (P i), ()) := mem_0 (n := c) hc hi (by omega)
  have a3 : f_X5_about (nI c, nI m, nI q, nI B, nI g, nf P, gu, nf b, aw, ta, ins, nf F, nf O, nf G, nf H, nf S, nf D) (3:Int32) = some (nI q, ()) := ab_3
  have a4 : f_X5_about (nI c, nI m, nI q, nI B, nI g, nf P, gu, nf b, aw, ta, ins, nf F, nf O, nf G, nf H, nf S, nf D) (4:Int32) = some (nI B, ()) := ab_4
  have f2 : nI (F i) / (2:Int32) = nI (F i / 2) := nI_div (b := 2) (by omega) (by omega)
  obtain ⟨w, w1, w2, -, -⟩ := sI_bo (wt_bo ins ta) c
  have a6 : f_X5_about (nI c, nI m, nI q, nI B, nI g, nf P, gu, nf b, aw, ta, ins, nf F, nf O, nf G, nf H, nf S, nf D) (6:Int32) = some (nI w, ()) := by rw [← w2]; exact ab_6 (n := c) hc (by omega)
  have wn : f_X3_countWaiting (nI c, nI m, nI q, nI B, nI g, nf P, gu, nf b, aw, ta, ins, nf F, nf O, nf G, nf H, nf S, nf D) = some (nI w, ()) := by rw [← w2]; exact waiting_n (n := c) hc (by omega)
  have self : ∃ v' p', some ((1:Int32), ((nI c, nI m, nI q, nI B, nI g, nf P, gu, nf b, aw, ta, ins, nf F, nf O, nf G, nf H, nf S, nf D), p)) = some ((1:Int32), ((v' : StV), (p' : PaV))) ∧ Top p' [] ∧ Ok c m q g v' ∧ (PB c (nI c, nI m, nI q, nI B, nI g, nf P, gu, nf b, aw, ta, ins, nf F, nf O, nf G, nf H, nf S, nf D) → PB c v') := ⟨_, _, rfl, tp.nil, ⟨B, P, gu, b, aw, ta, ins, F, O, G, H, S, D, rfl, h0⟩, id⟩
  have e8 : ∀ {β : Type} {k : Option β}, gi (nI i) 8 k = k := fun {β k} => gi_ok (by omega) (by omega)
  -- what it answers behind the going
  have n0 : ∀ {B' : Nat} {x : Nat}, f_X5_member (nI c, nI m, nI q, nI B', nI g, nf (un P i x), gu, nf b, aw, ta, upd ins i 0, nf F, nf O, nf G, nf H, nf S, nf D) (nI i) (0:Int32) = some (nI x, ()) := fun {B' x} => (mem_0 (n := c) hc hi (by omega)).trans (by show some (nf (un P i x) i, ()) = _; rw [nf_at, un_same])
  have n5 : ∀ {B' : Nat} {x : Nat}, f_X5_member (nI c, nI m, nI q, nI B', nI g, nf (un P i x), gu, nf b, aw, ta, upd ins i 0, nf F, nf O, nf G, nf H, nf S, nf D) (nI i) (5:Int32) = some ((0:Int32), ()) := fun {B' x} => (mem_5 (n := c) hc hi (by omega) bi).trans (by show some (upd ins i 0 i, ()) = _; rw [upd_same])
  have n4 : ∀ {B' : Nat} {x : Nat}, f_X5_about (nI c, nI m, nI q, nI B', nI g, nf (un P i x), gu, nf b, aw, ta, upd ins i 0, nf F, nf O, nf G, nf H, nf S, nf D) (4:Int32) = some (nI B', ()) := fun {B' x} => ab_4
  have good : ∀ {B' x : Nat}, B' + x = B + P i → Ok c m q g (nI c, nI m, nI q, nI B', nI g, nf (un P i x), gu, nf b, aw, ta, upd ins i 0, nf F, nf O, nf G, nf H, nf S, nf D) := fun {B' x} hB => by
    have s1 := su_un (x := x) (f := P) hi
    exact ⟨B', _, gu, b, aw, ta, _, F, O, G, H, S, D, rfl, ⟨g1, g2, g3, g4, g5⟩, by omega, hg, ha, ht, bi, hb, hF, hD, hDb, zP.un hi, zgu, zb, za, zt, zi.upd hi, zr⟩
  have pb : ∀ {B' x : Nat}, PB c (nI c, nI m, nI q, nI B, nI g, nf P, gu, nf b, aw, ta, ins, nf F, nf O, nf G, nf H, nf S, nf D) → PB c (nI c, nI m, nI q, nI B', nI g, nf (un P i x), gu, nf b, aw, ta, upd ins i 0, nf F, nf O, nf G, nf H, nf S, nf D) := fun {B' x} hp j hj h1 h2 => by
    refine hp j hj ?_ h2
    have h1 : upd ins i 0 j = 1 := h1
    by_cases e : j = i
    · subst e; rw [upd_same] at h1; exact absurd h1 (by decide)
    · rw [upd_ne e] at h1; exact h1
  rcases ht i with e1 | e1
  · -- has not taken the pot: half of what it paid, as far as the box has it
    rcases hi' i with e2 | e2
    · by_cases q1 : B ≤ F i / 2
      · simp (disch := omega) only [f_L_leave, m4, m5, m6, m0, a4, e1, e2, z_ne, gz2, f2, lt_e, nI_lei, q1, bd_s, ↓reduceIte]
        exact self
      · simp (disch := omega) only [f_L_leave, m4, m5, m6, m0, a4, e1, e2, z_ne, gz2, f2, lt_e, nI_lei, q1, bd_s, ↓reduceIte]
        exact self
    · have step : ∀ x, x = (if B < F i / 2 then B else F i / 2) → f_X5_leave (nI c, nI m, nI q, nI B, nI g, nf P, gu, nf b, aw, ta, ins, nf F, nf O, nf G, nf H, nf S, nf D) p (nI i) = some (nI x, ((nI c, nI m, nI q, nI (B - x), nI g, nf (un P i (P i + x)), gu, nf b, aw, ta, upd ins i 0, nf F, nf O, nf G, nf H, nf S, nf D), p')) := by
        intro x hx
        have xB : x ≤ B := by rw [hx]; split <;> omega
        have hx' : (if nI B < nI (F i / 2) then nI B else nI (F i / 2)) = nI x := by
          rw [hx]
          by_cases q : B < F i / 2
          · rw [if_pos q, if_pos ((nI_lti (by omega) (by omega)).mpr q)]
          · rw [if_neg q, if_neg (fun z => q ((nI_lti (by omega) (by omega)).mp z))]
        have gn : f_X3_gainOfGoing (nI c, nI m, nI q, nI B, nI g, nf P, gu, nf b, aw, ta, ins, nf F, nf O, nf G, nf H, nf S, nf D) (nI i) = some (nI x, ()) := by
          simp only [f_X3_gainOfGoing, e8, St_count, St_month, St_contribution, St_box, St_given, St_purse, St_guarantor, St_bid, St_away, St_taken, St_inside, St_paidForItself, St_paidForOthers, St_gotOfPot, St_shares, St_misses, St_debt, St_count_s, St_month_s, St_contribution_s, St_box_s, St_given_s, St_purse_s, St_guarantor_s, St_bid_s, St_away_s, St_taken_s, St_inside_s, St_paidForItself_s, St_paidForOthers_s, St_gotOfPot_s, St_shares_s, St_misses_s, St_debt_s, Rd_paid, Rd_missing, Rd_pence, Rd_paid_s, Rd_missing_s, Rd_pence_s, nI_clamp (show i < 2147483648 by omega), e1, gz2, lt_e, nf_at, f2, hx', ↓reduceIte]
        have mg : f_X3_mayGo (nI c, nI m, nI q, nI B, nI g, nf P, gu, nf b, aw, ta, ins, nf F, nf O, nf G, nf H, nf S, nf D) (nI i) = some ((1:Int32), ()) := by
          simp (disch := omega) only [f_X3_mayGo, e8, St_count, St_month, St_contribution, St_box, St_given, St_purse, St_guarantor, St_bid, St_away, St_taken, St_inside, St_paidForItself, St_paidForOthers, St_gotOfPot, St_shares, St_misses, St_debt, St_count_s, St_month_s, St_contribution_s, St_box_s, St_given_s, St_purse_s, St_guarantor_s, St_bid_s, St_away_s, St_taken_s, St_inside_s, St_paidForItself_s, St_paidForOthers_s, St_gotOfPot_s, St_shares_s, St_misses_s, St_debt_s, Rd_paid, Rd_missing, Rd_pence, Rd_paid_s, Rd_missing_s, Rd_pence_s, nI_clamp, e2, gn, bd_s, nf_at, q_add, nI_nn, o_ne, ↓reduceIte]
        have go : f_X3_go (nI c, nI m, nI q, nI B, nI g, nf P, gu, nf b, aw, ta, ins, nf F, nf O, nf G, nf H, nf S, nf D) (nI i) = some (nI x, (nI c, nI m, nI q, nI (B - x), nI g, nf (un P i (P i + x)), gu, nf b, aw, ta, upd ins i 0, nf F, nf O, nf G, nf H, nf S, nf D)) := by
          simp (disch := omega) only [f_X3_go, gn, bd_s, e8, lt_e, St_count, St_month, St_contribution, St_box, St_given, St_purse, St_guarantor, St_bid, St_away, St_taken, St_inside, St_paidForItself, St_paidForOthers, St_gotOfPot, St_shares, St_misses, St_debt, St_count_s, St_month_s, St_contribution_s, St_box_s, St_given_s, St_purse_s, St_guarantor_s, St_bid_s, St_away_s, St_taken_s, St_inside_s, St_paidForItself_s, St_paidForOthers_s, St_gotOfPot_s, St_shares_s, St_misses_s, St_debt_s, Rd_paid, Rd_missing, Rd_pence, Rd_paid_s, Rd_missing_s, Rd_pence_s, nI_clamp, nf_at, q_add, nf_un, nI_sub, nar0]
        simp only [f_X5_leave, req (n := c) hc hi (by omega), mg, bd_s, e, go, o_ne, ↓reduceIte]
      by_cases q1 : B ≤ F i / 2
      · have st := step B (by split <;> omega)
        have p1 : (0:Int32) ≤ nI (P i + B) := (nI_lei (a := 0) (by omega) (by omega)).mpr (by omega)
        refine ⟨(nI c, nI m, nI q, nI (B - B), nI g, nf (un P i (P i + B)), gu, nf b, aw, ta, upd ins i 0, nf F, nf O, nf G, nf H, nf S, nf D), p', ?_, t.nil, good (by omega), pb⟩
        rw [f_L_leave, bd_r m4, if_neg (show ¬ ta i = 1 from fun z => absurd (e1.symm.trans z) (by decide)), bd_r m6, gz2, lt_e, f2, bd_r a4, bd_r m0, if_pos rfl, if_pos (show nI B ≤ nI (F i / 2) from (nI_lei (by omega) (by omega)).mpr q1), bd_r m5, if_neg (show ¬ ins i = 0 from fun z => absurd (e2.symm.trans z) (by decide)), if_pos (show (0:Int32) ≤ nI (P i) + nI (B) from by rw [q_add]; exact p1), bd_r st, if_pos rfl, bd_r n0, if_pos (q_add _ _).symm, bd_r n4, if_pos (nI_sub (by omega)).symm, bd_r n5, if_pos rfl]
      · have st := step (F i / 2) (by split <;> omega)
        have p1 : (0:Int32) ≤ nI (P i + F i / 2) := (nI_lei (a := 0) (by omega) (by omega)).mpr (by omega)
        refine ⟨(nI c, nI m, nI q, nI (B - F i / 2), nI g, nf (un P i (P i + F i / 2)), gu, nf b, aw, ta, upd ins i 0, nf F, nf O, nf G, nf H, nf S, nf D), p', ?_, t.nil, good (by omega), pb⟩
        rw [f_L_leave, bd_r m4, if_neg (show ¬ ta i = 1 from fun z => absurd (e1.symm.trans z) (by decide)), bd_r m6, gz2, lt_e, f2, bd_r a4, bd_r m0, if_pos rfl, if_neg (show ¬ nI B ≤ nI (F i / 2) from fun z => q1 ((nI_lei (by omega) (by omega)).mp z)), bd_r m5, if_neg (show ¬ ins i = 0 from fun z => absurd (e2.symm.trans z) (by decide)), if_pos (show (0:Int32) ≤ nI (P i) + nI (F i / 2) from by rw [q_add]; exact p1), bd_r st, if_pos rfl, bd_r n0, if_pos (q_add _ _).symm, bd_r n4, if_pos (nI_sub (by omega)).symm, bd_r n5, if_pos rfl]
  · -- has taken it: pays a contribution for each that waits
    have qw : q * w ≤ 20 * 7 := Nat.mul_le_mul g2 (by omega)
    rcases hi' i with e2 | e2
    · simp (disch := omega) only [f_L_leave, m4, m5, m6, m0, a3, a4, a6, e1, e2, o_ne, gz2, f2, lt_e, bd_s, ↓reduceIte]
      exact self
    · by_cases q1 : q * w ≤ P i
      · have p1 : (0:Int32) ≤ nI (P i - q * w) := (nI_lei (a := 0) (by omega) (by omega)).mpr (by omega)
        have gn : f_X3_gainOfGoing (nI c, nI m, nI q, nI B, nI g, nf P, gu, nf b, aw, ta, ins, nf F, nf O, nf G, nf H, nf S, nf D) (nI i) = some (-(nI (q * w)), ()) := by
          simp (disch := omega) only [f_X3_gainOfGoing, e8, St_count, St_month, St_contribution, St_box, St_given, St_purse, St_guarantor, St_bid, St_away, St_taken, St_inside, St_paidForItself, St_paidForOthers, St_gotOfPot, St_shares, St_misses, St_debt, St_count_s, St_month_s, St_contribution_s, St_box_s, St_given_s, St_purse_s, St_guarantor_s, St_bid_s, St_away_s, St_taken_s, St_inside_s, St_paidForItself_s, St_paidForOthers_s, St_gotOfPot_s, St_shares_s, St_misses_s, St_debt_s, Rd_paid, Rd_missing, Rd_pence, Rd_paid_s, Rd_missing_s, Rd_pence_s, nI_clamp, e1, wn, bd_s, neg_mul_nI, o_ne, ↓reduceIte]
        have mg : f_X3_mayGo (nI c, nI m, nI q, nI B, nI g, nf P, gu, nf b, aw, ta, ins, nf F, nf O, nf G, nf H, nf S, nf D) (nI i) = some ((1:Int32), ()) := by
          simp (disch := omega) only [f_X3_mayGo, e8, St_count, St_month, St_contribution, St_box, St_given, St_purse, St_guarantor, St_bid, St_away, St_taken, St_inside, St_paidForItself, St_paidForOthers, St_gotOfPot, St_shares, St_misses, St_debt, St_count_s, St_month_s, St_contribution_s, St_box_s, St_given_s, St_purse_s, St_guarantor_s, St_bid_s, St_away_s, St_taken_s, St_inside_s, St_paidForItself_s, St_paidForOthers_s, St_gotOfPot_s, St_shares_s, St_misses_s, St_debt_s, Rd_paid, Rd_missing, Rd_pence, Rd_paid_s, Rd_missing_s, Rd_pence_s, nI_clamp, e2, gn, bd_s, nf_at, add_neg_nI, nI_sub, nI_nn, o_ne, ↓reduceIte]
        have go : f_X3_go (nI c, nI m, nI q, nI B, nI g, nf P, gu, nf b, aw, ta, ins, nf F, nf O, nf G, nf H, nf S, nf D) (nI i) = some (-(nI (q * w)), (nI c, nI m, nI q, nI (B + q * w), nI g, nf (un P i (P i - q * w)), gu, nf b, aw, ta, upd ins i 0, nf F, nf O, nf G, nf H, nf S, nf D)) := by
          simp (disch := omega) only [f_X3_go, gn, bd_s, e8, lt_e, St_count, St_month, St_contribution, St_box, St_given, St_purse, St_guarantor, St_bid, St_away, St_taken, St_inside, St_paidForItself, St_paidForOthers, St_gotOfPot, St_shares, St_misses, St_debt, St_count_s, St_month_s, St_contribution_s, St_box_s, St_given_s, St_purse_s, St_guarantor_s, St_bid_s, St_away_s, St_taken_s, St_inside_s, St_paidForItself_s, St_paidForOthers_s, St_gotOfPot_s, St_shares_s, St_misses_s, St_debt_s, Rd_paid, Rd_missing, Rd_pence, Rd_paid_s, Rd_missing_s, Rd_pence_s, nI_clamp, nf_at, add_neg_nI, sub_neg_nI, nf_un, nI_sub, nar0]
        have st : f_X5_leave (nI c, nI m, nI q, nI B, nI g, nf P, gu, nf b, aw, ta, ins, nf F, nf O, nf G, nf H, nf S, nf D) p (nI i) = some (-(nI (q * w)), ((nI c, nI m, nI q, nI (B + q * w), nI g, nf (un P i (P i - q * w)), gu, nf b, aw, ta, upd ins i 0, nf F, nf O, nf G, nf H, nf S, nf D), p')) := by
          simp only [f_X5_leave, req (n := c) hc hi (by omega), mg, bd_s, e, go, o_ne, ↓reduceIte]
        refine ⟨(nI c, nI m, nI q, nI (B + q * w), nI g, nf (un P i (P i - q * w)), gu, nf b, aw, ta, upd ins i 0, nf F, nf O, nf G, nf H, nf S, nf D), p', ?_, t.nil, good (by omega), pb⟩
        rw [f_L_leave, bd_r m4, if_pos e1, bd_r m6, gz2, lt_e, bd_r a4, bd_r m0, if_neg (show ¬ (1:Int32) = 0 by decide), bd_r a3, bd_r a6, lt_e, neg_mul_nI, bd_r m5, if_neg (show ¬ ins i = 0 from fun z => absurd (e2.symm.trans z) (by decide)), if_pos (show (0:Int32) ≤ nI (P i) + -(nI (q * w)) from by rw [add_neg_nI, nI_sub q1]; exact p1), bd_r st, if_pos rfl, bd_r n0, if_pos (show nI (P i - q * w) = nI (P i) + -(nI (q * w)) from by rw [add_neg_nI, nI_sub q1]), bd_r n4, if_pos (sub_neg_nI _ _).symm, bd_r n5, if_pos rfl]
      · have p1 : ¬ (0:Int32) ≤ nI (P i) - nI (q * w) := Int32.not_le.mpr (nI_subneg (by omega) (by omega))
        rw [f_L_leave, bd_r m4, if_pos e1, bd_r m6, gz2, lt_e, bd_r a4, bd_r m0, if_neg (show ¬ (1:Int32) = 0 by decide), bd_r a3, bd_r a6, lt_e, neg_mul_nI, bd_r m5, if_neg (show ¬ ins i = 0 from fun z => absurd (e2.symm.trans z) (by decide)), if_neg (show ¬ (0:Int32) ≤ nI (P i) + -(nI (q * w)) from by rw [add_neg_nI]; exact p1)]
        exact self
end GO
