/-! actions on a good state -/
theorem nf_u0 (f : Nat → Nat) (i : Nat) : upd (nf f) i (0:Int32) = nf (un f i 0) := nf_un f i 0
section ACT
variable {c m q B g : Nat} {P : Nat → Nat} {gu : Nat → Int32} {b : Nat → Nat} {aw ta ins : Nat → Int32} {F O G H S D : Nat → Nat}
variable {p : PaV} {l : List StV}
theorem setC_ok (h : OkW c m q B g P gu b aw ta ins F O G H S D) (tp : Top p l) (hl : l.length ≤ 13) {y : Nat} (y1 : 1 ≤ y) (y2 : y ≤ 20) : ∃ p', f_X5_setContribution (nI c, nI m, nI q, nI B, nI g, nf P, gu, nf b, aw, ta, ins, nf F, nf O, nf G, nf H, nf S, nf D) p (nI y) = some (nI q, ((nI c, nI m, nI y, nI B, nI g, nf P, gu, nf b, aw, ta, ins, nf F, nf O, nf G, nf H, nf S, nf D), p')) ∧ Top p' [] ∧ OkW c m y B g P gu b aw ta ins F O G H S D := by
  have z : Z8 (nI c, nI m, nI q, nI B, nI g, nf P, gu, nf b, aw, ta, ins, nf F, nf O, nf G, nf H, nf S, nf D) := Ok.z ⟨B, P, gu, b, aw, ta, ins, F, O, G, H, S, D, rfl, h⟩
  obtain ⟨p', e, t⟩ := tp.remember hl z
  have n1 : ¬ nI y < (1:Int32) := fun z => by have := (nI_lti (b := 1) (by omega) (by omega)).mp z; omega
  have n2 : nI y ≤ (50:Int32) := (nI_lei (b := 50) (by omega) (by omega)).mpr (by omega)
  refine ⟨p', ?_, t.nil, ?_⟩
  · simp only [f_X5_setContribution, f_X5_requireRange, n1, n2, e, bd_s, lt_e, St_count, St_month, St_contribution, St_box, St_given, St_purse, St_guarantor, St_bid, St_away, St_taken, St_inside, St_paidForItself, St_paidForOthers, St_gotOfPot, St_shares, St_misses, St_debt, St_count_s, St_month_s, St_contribution_s, St_box_s, St_given_s, St_purse_s, St_guarantor_s, St_bid_s, St_away_s, St_taken_s, St_inside_s, St_paidForItself_s, St_paidForOthers_s, St_gotOfPot_s, St_shares_s, St_misses_s, St_debt_s, Rd_paid, Rd_missing, Rd_pence, Rd_paid_s, Rd_missing_s, Rd_pence_s, ↓reduceIte]
  · obtain ⟨⟨g1, g2, g3, g4, g5⟩, h⟩ := h
    exact ⟨⟨y1, y2, g3, g4, g5⟩, h⟩
theorem addM_ok (h : OkW c m q B g P gu b aw ta ins F O G H S D) (tp : Top p l) (hl : l.length ≤ 13) (hc : c ≤ 6) {x : Nat} (hx : x ≤ 999) (hg9 : g + x ≤ 9000) : ∃ v' p', f_X5_addMember (nI c, nI m, nI q, nI B, nI g, nf P, gu, nf b, aw, ta, ins, nf F, nf O, nf G, nf H, nf S, nf D) p (nI x) = some (nI c, (v', p')) ∧ Ok (c + 1) m q (g + x) v' ∧ Top p' [] ∧ St_purse v' c = nI x ∧ St_guarantor v' c = (-99999:Int32) ∧ St_inside v' c = 1 ∧ (∀ j, c < j → St_guarantor v' j = 0) ∧ (∀ j, j < c → St_guarantor v' j = gu j) ∧ (∀ j, nf b j = 0 → St_bid v' j = 0) := by
  have z : Z8 (nI c, nI m, nI q, nI B, nI g, nf P, gu, nf b, aw, ta, ins, nf F, nf O, nf G, nf H, nf S, nf D) := Ok.z ⟨B, P, gu, b, aw, ta, ins, F, O, G, H, S, D, rfl, h⟩
  obtain ⟨p', e, t⟩ := tp.remember hl z
  obtain ⟨⟨g1, g2, g3, g4, g5⟩, g6, hg, ha, ht, hi, hb, hF, hD, hDb, zP, zgu, zb, za, zt, zi, zF, zO, zG, zH, zS⟩ := h
  have n1 : ¬ nI x < (0:Int32) := fun z => (nI_nn (by omega)).mp z
  have n2 : nI x ≤ (999:Int32) := (nI_lei (b := 999) (by omega) (by omega)).mpr (by omega)
  have n3 : nI c < (8:Int32) := (nI_lti (b := 8) (by omega) (by omega)).mpr (by omega)
  refine ⟨(nI (c + 1), nI m, nI q, nI B, nI (g + x), nf (un P c x), upd gu c (-99999:Int32), nf (un b c 0), upd aw c 0, upd ta c 0, upd ins c 1, nf (un F c 0), nf (un O c 0), nf (un G c 0), nf (un H c 0), nf (un S c 0), nf D), p', ?_, ⟨B, _, _, _, _, _, _, _, _, _, _, _, D, rfl, ?_⟩, t.nil, ?_, upd_same _ _ _, upd_same _ _ _, fun j hj => ?_, fun j hj => ?_, fun j hj => ?_⟩
  · simp (disch := omega) only [f_X5_addMember, f_X5_requireRange, f_X3_join, n1, n2, n3, e, St_count, St_month, St_contribution, St_box, St_given, St_purse, St_guarantor, St_bid, St_away, St_taken, St_inside, St_paidForItself, St_paidForOthers, St_gotOfPot, St_shares, St_misses, St_debt, St_count_s, St_month_s, St_contribution_s, St_box_s, St_given_s, St_purse_s, St_guarantor_s, St_bid_s, St_away_s, St_taken_s, St_inside_s, St_paidForItself_s, St_paidForOthers_s, St_gotOfPot_s, St_shares_s, St_misses_s, St_debt_s, Rd_paid, Rd_missing, Rd_pence, Rd_paid_s, Rd_missing_s, Rd_pence_s, mul8, lt_e, bd_s, gi_ok, gz2, q_add, nI_s1, nI_clamp, upd_same, nar0, nar1, c0, nf_at, nf_un, nf_u0, ↓reduceIte]
  · have zz : ∀ {f : Nat → Nat} {y : Nat}, Zn c f → Zn (c + 1) (un f c y) := fun {f y} h => Zn.un (Zn.up h (by omega)) (by omega)
    have zy : ∀ {f : Nat → Int32} {y : Int32}, Zi c f → Zi (c + 1) (upd f c y) := fun {f y} h => Zi.upd (Zi.up h (by omega)) (by omega)
    refine ⟨⟨g1, g2, by omega, g4, hg9⟩, ?_, fun i hi' => ?_, ha.upd (Or.inl rfl), ht.upd (Or.inl rfl), hi.upd (Or.inr rfl), fun j => ?_, fun j => ?_, hD, fun k hk => ?_, zz zP, zy zgu, zz zb, zy za, zy zt, zy zi, zz zF, zz zO, zz zG, zz zH, zz zS⟩
    · rw [su_s, un_same, su_out (Nat.le_refl _)]; omega
    · by_cases e : i = c
      · subst e; rw [upd_same]; exact Or.inl rfl
      · rw [upd_ne e]
        rcases hg i (by omega) with q | ⟨g', q1, q2, q3⟩
        · exact Or.inl q
        · exact Or.inr ⟨g', by omega, q2, q3⟩
    · by_cases e : j = c
      · subst e; rw [un_same]; omega
      · rw [un_ne e]; exact hb j
    · by_cases e : j = c
      · subst e; rw [un_same]; omega
      · rw [un_ne e]; exact hF j
    · obtain ⟨i, j, q1, q2, q3, q4⟩ := hDb k hk
      exact ⟨i, j, by omega, by omega, q3, q4⟩
  · show nf (un P c x) c = nI x
    rw [nf_at, un_same]
  · show upd gu c (-99999:Int32) j = 0
    rw [upd_ne (by omega)]; exact zgu j (by omega)
  · show upd gu c (-99999:Int32) j = gu j
    rw [upd_ne (by omega)]
  · show nf (un b c 0) j = 0
    by_cases e : j = c
    · subst e; rw [nf_at, un_same]; rfl
    · rw [nf_at, un_ne e]; exact hj
theorem setG_ok (h : OkW c m q B g P gu b aw ta ins F O G H S D) (tp : Top p l) (hl : l.length ≤ 13) {i o : Nat} (hi : i < c) (ho : o < c) (hio : i ≠ o) : ∃ p', f_X5_setGuarantor (nI c, nI m, nI q, nI B, nI g, nf P, gu, nf b, aw, ta, ins, nf F, nf O, nf G, nf H, nf S, nf D) p (nI i) (nI o) = some (gu i, ((nI c, nI m, nI q, nI B, nI g, nf P, upd gu i (nI o), nf b, aw, ta, ins, nf F, nf O, nf G, nf H, nf S, nf D), p')) ∧ Top p' [] ∧ OkW c m q B g P (upd gu i (nI o)) b aw ta ins F O G H S D := by
  have z : Z8 (nI c, nI m, nI q, nI B, nI g, nf P, gu, nf b, aw, ta, ins, nf F, nf O, nf G, nf H, nf S, nf D) := Ok.z ⟨B, P, gu, b, aw, ta, ins, F, O, G, H, S, D, rfl, h⟩
  obtain ⟨p', e, t⟩ := tp.remember hl z
  have hc : St_count (nI c, nI m, nI q, nI B, nI g, nf P, gu, nf b, aw, ta, ins, nf F, nf O, nf G, nf H, nf S, nf D) = nI c := rfl
  obtain ⟨⟨g1, g2, g3, g4, g5⟩, g6, hg, ha, ht, hi', hb, hF, hD, hDb, zP, zgu, zr⟩ := h
  have n1 : ¬ nI o = (-99999:Int32) := fun z => (nI_neg (by omega)).mp z
  refine ⟨p', ?_, t.nil, ⟨g1, g2, g3, g4, g5⟩, g6, fun j hj => ?_, ha, ht, hi', hb, hF, hD, hDb, zP, zgu.upd hi, zr⟩
  · simp (disch := omega) only [f_X5_setGuarantor, if_neg n1, req2 (n := c) hc hi ho hio (by omega), e, bd_s, gi_ok, lt_e, St_count, St_month, St_contribution, St_box, St_given, St_purse, St_guarantor, St_bid, St_away, St_taken, St_inside, St_paidForItself, St_paidForOthers, St_gotOfPot, St_shares, St_misses, St_debt, St_count_s, St_month_s, St_contribution_s, St_box_s, St_given_s, St_purse_s, St_guarantor_s, St_bid_s, St_away_s, St_taken_s, St_inside_s, St_paidForItself_s, St_paidForOthers_s, St_gotOfPot_s, St_shares_s, St_misses_s, St_debt_s, Rd_paid, Rd_missing, Rd_pence, Rd_paid_s, Rd_missing_s, Rd_pence_s, nI_clamp]
  · by_cases e : j = i
    · subst e; rw [upd_same]; exact Or.inr ⟨o, ho, fun q => hio q.symm, rfl⟩
    · rw [upd_ne e]; exact hg j hj
theorem bid_ok (h : OkW c m q B g P gu b aw ta ins F O G H S D) (tp : Top p l) (hl : l.length ≤ 13) {i n : Nat} (hi : i < c) (hn : n ≤ 999) (h1 : ins i = 1) (h2 : ta i = 0) : ∃ p', f_X5_bid (nI c, nI m, nI q, nI B, nI g, nf P, gu, nf b, aw, ta, ins, nf F, nf O, nf G, nf H, nf S, nf D) p (nI i) (nI n) = some (nI (b i), ((nI c, nI m, nI q, nI B, nI g, nf P, gu, nf (un b i n), aw, ta, ins, nf F, nf O, nf G, nf H, nf S, nf D), p')) ∧ Top p' ((nI c, nI m, nI q, nI B, nI g, nf P, gu, nf b, aw, ta, ins, nf F, nf O, nf G, nf H, nf S, nf D) :: l) ∧ OkW c m q B g P gu (un b i n) aw ta ins F O G H S D := by
  have z : Z8 (nI c, nI m, nI q, nI B, nI g, nf P, gu, nf b, aw, ta, ins, nf F, nf O, nf G, nf H, nf S, nf D) := Ok.z ⟨B, P, gu, b, aw, ta, ins, F, O, G, H, S, D, rfl, h⟩
  obtain ⟨p', e, t⟩ := tp.remember hl z
  have hc : St_count (nI c, nI m, nI q, nI B, nI g, nf P, gu, nf b, aw, ta, ins, nf F, nf O, nf G, nf H, nf S, nf D) = nI c := rfl
  obtain ⟨⟨g1, g2, g3, g4, g5⟩, g6, hg, ha, ht, hi', hb, hF, hD, hDb, zP, zgu, zb, zr⟩ := h
  have n1 : ¬ nI n < (0:Int32) := fun z => (nI_nn (by omega)).mp z
  have n2 : nI n ≤ (999:Int32) := (nI_lei (b := 999) (by omega) (by omega)).mpr (by omega)
  refine ⟨p', ?_, t, ⟨g1, g2, g3, g4, g5⟩, g6, hg, ha, ht, hi', fun j => ?_, hF, hD, hDb, zP, zgu, zb.un hi, zr⟩
  · simp (disch := omega) only [f_X5_bid, f_X5_requireRange, f_X3_mayBid, req (n := c) hc hi (by omega), n1, n2, h1, h2, e, St_count, St_month, St_contribution, St_box, St_given, St_purse, St_guarantor, St_bid, St_away, St_taken, St_inside, St_paidForItself, St_paidForOthers, St_gotOfPot, St_shares, St_misses, St_debt, St_count_s, St_month_s, St_contribution_s, St_box_s, St_given_s, St_purse_s, St_guarantor_s, St_bid_s, St_away_s, St_taken_s, St_inside_s, St_paidForItself_s, St_paidForOthers_s, St_gotOfPot_s, St_shares_s, St_misses_s, St_debt_s, Rd_paid, Rd_missing, Rd_pence, Rd_paid_s, Rd_missing_s, Rd_pence_s, mul8, lt_e, bd_s, gi_ok, gz2, q_add, nI_s1, nI_clamp, upd_same, nar0, nar1, c0, nf_at, nf_un, o_ne, ↓reduceIte]
  · by_cases e : j = i
    · subst e; rw [un_same]; exact hn
    · rw [un_ne e]; exact hb j
theorem away_ok (h : OkW c m q B g P gu b aw ta ins F O G H S D) (tp : Top p l) (hl : l.length ≤ 13) {i : Nat} (hi : i < c) (h1 : aw i = 0) : ∃ p', f_X5_stayAway (nI c, nI m, nI q, nI B, nI g, nf P, gu, nf b, aw, ta, ins, nf F, nf O, nf G, nf H, nf S, nf D) p (nI i) (1:Int32) = some ((0:Int32), ((nI c, nI m, nI q, nI B, nI g, nf P, gu, nf b, upd aw i 1, ta, ins, nf F, nf O, nf G, nf H, nf S, nf D), p')) ∧ Top p' [] ∧ OkW c m q B g P gu b (upd aw i 1) ta ins F O G H S D := by
  have z : Z8 (nI c, nI m, nI q, nI B, nI g, nf P, gu, nf b, aw, ta, ins, nf F, nf O, nf G, nf H, nf S, nf D) := Ok.z ⟨B, P, gu, b, aw, ta, ins, F, O, G, H, S, D, rfl, h⟩
  obtain ⟨p', e, t⟩ := tp.remember hl z
  have hc : St_count (nI c, nI m, nI q, nI B, nI g, nf P, gu, nf b, aw, ta, ins, nf F, nf O, nf G, nf H, nf S, nf D) = nI c := rfl
  obtain ⟨⟨g1, g2, g3, g4, g5⟩, g6, hg, ha, ht, hi', hb, hF, hD, hDb, zP, zgu, zb, za, zr⟩ := h
  have gb0 : ∀ {B : Type} {k : Option B}, gb (0:Int32) k = k := fun {B k} => if_pos rfl
  refine ⟨p', ?_, t.nil, ⟨g1, g2, g3, g4, g5⟩, g6, hg, ha.upd (Or.inr rfl), ht, hi', hb, hF, hD, hDb, zP, zgu, zb, za.upd hi, zr⟩
  simp (disch := omega) only [f_X5_stayAway, req (n := c) hc hi (by omega), h1, e, St_count, St_month, St_contribution, St_box, St_given, St_purse, St_guarantor, St_bid, St_away, St_taken, St_inside, St_paidForItself, St_paidForOthers, St_gotOfPot, St_shares, St_misses, St_debt, St_count_s, St_month_s, St_contribution_s, St_box_s, St_given_s, St_purse_s, St_guarantor_s, St_bid_s, St_away_s, St_taken_s, St_inside_s, St_paidForItself_s, St_paidForOthers_s, St_gotOfPot_s, St_shares_s, St_misses_s, St_debt_s, Rd_paid, Rd_missing, Rd_pence, Rd_paid_s, Rd_missing_s, Rd_pence_s, mul8, lt_e, bd_s, gi_ok, gz2, q_add, nI_s1, nI_clamp, upd_same, nar0, nar1, c0, nf_at, nf_un, gb0]
theorem give_ok (h : OkW c m q B g P gu b aw ta ins F O G H S D) (tp : Top p l) (hl : l.length ≤ 13) {i n : Nat} (hi : i < c) (n1 : 1 ≤ n) (n2 : n ≤ 999) (hg9 : g + n ≤ 9000) : ∃ p', f_X5_give (nI c, nI m, nI q, nI B, nI g, nf P, gu, nf b, aw, ta, ins, nf F, nf O, nf G, nf H, nf S, nf D) p (nI i) (nI n) = some (nI (P i + n), ((nI c, nI m, nI q, nI B, nI (g + n), nf (un P i (P i + n)), gu, nf b, aw, ta, ins, nf F, nf O, nf G, nf H, nf S, nf D), p')) ∧ Top p' [] ∧ OkW c m q B (g + n) (un P i (P i + n)) gu b aw ta ins F O G H S D := by
  have z : Z8 (nI c, nI m, nI q, nI B, nI g, nf P, gu, nf b, aw, ta, ins, nf F, nf O, nf G, nf H, nf S, nf D) := Ok.z ⟨B, P, gu, b, aw, ta, ins, F, O, G, H, S, D, rfl, h⟩
  obtain ⟨p', e, t⟩ := tp.remember hl z
  have hc : St_count (nI c, nI m, nI q, nI B, nI g, nf P, gu, nf b, aw, ta, ins, nf F, nf O, nf G, nf H, nf S, nf D) = nI c := rfl
  obtain ⟨⟨g1, g2, g3, g4, g5⟩, g6, hg, ha, ht, hi', hb, hF, hD, hDb, zP, zr⟩ := h
  have k1 : ¬ nI n < (1:Int32) := fun z => by have := (nI_lti (b := 1) (by omega) (by omega)).mp z; omega
  have k2 : nI n ≤ (999:Int32) := (nI_lei (b := 999) (by omega) (by omega)).mpr (by omega)
  have k3 : ¬ (9000:Int32) < nI (g + n) := fun z => by have := (nI_lti (a := 9000) (by omega) (by omega)).mp z; omega
  have s1 := su_un (x := P i + n) (f := P) hi
  refine ⟨p', ?_, t.nil, ⟨g1, g2, g3, g4, hg9⟩, by omega, hg, ha, ht, hi', hb, hF, hD, hDb, zP.un hi, zr⟩
  simp (disch := omega) only [f_X5_give, f_X5_requireRange, f_X3_mayReceive, f_X3_receive, req (n := c) hc hi (by omega), k1, k2, k3, e, St_count, St_month, St_contribution, St_box, St_given, St_purse, St_guarantor, St_bid, St_away, St_taken, St_inside, St_paidForItself, St_paidForOthers, St_gotOfPot, St_shares, St_misses, St_debt, St_count_s, St_month_s, St_contribution_s, St_box_s, St_given_s, St_purse_s, St_guarantor_s, St_bid_s, St_away_s, St_taken_s, St_inside_s, St_paidForItself_s, St_paidForOthers_s, St_gotOfPot_s, St_shares_s, St_misses_s, St_debt_s, Rd_paid, Rd_missing, Rd_pence, Rd_paid_s, Rd_missing_s, Rd_pence_s, mul8, lt_e, bd_s, gi_ok, gz2, q_add, nI_s1, nI_clamp, upd_same, nar0, nar1, c0, nf_at, nf_un, un_same, o_ne, ↓reduceIte]
theorem repay_ok (h : OkW c m q B g P gu b aw ta ins F O G H S D) (tp : Top p l) (hl : l.length ≤ 13) {i j : Nat} (hi : i < c) (hj : j < c) (hij : i ≠ j) : ∃ x p', x ≤ P i ∧ x ≤ D (i * 8 + j) ∧ x = (if P i < D (i * 8 + j) then P i else D (i * 8 + j)) ∧ f_X5_repay (nI c, nI m, nI q, nI B, nI g, nf P, gu, nf b, aw, ta, ins, nf F, nf O, nf G, nf H, nf S, nf D) p (nI i) (nI j) = some (nI x, ((nI c, nI m, nI q, nI B, nI g, nf (un (un P j (P j + x)) i (P i - x)), gu, nf b, aw, ta, ins, nf F, nf O, nf G, nf H, nf S, nf (un D (i * 8 + j) (D (i * 8 + j) - x))), p')) ∧ Top p' [] ∧ OkW c m q B g (un (un P j (P j + x)) i (P i - x)) gu b aw ta ins F O G H S (un D (i * 8 + j) (D (i * 8 + j) - x)) := by
  have hP9 := h.P9 i
  have z : Z8 (nI c, nI m, nI q, nI B, nI g, nf P, gu, nf b, aw, ta, ins, nf F, nf O, nf G, nf H, nf S, nf D) := Ok.z ⟨B, P, gu, b, aw, ta, ins, F, O, G, H, S, D, rfl, h⟩
  obtain ⟨p', e, t⟩ := tp.remember hl z
  have hc : St_count (nI c, nI m, nI q, nI B, nI g, nf P, gu, nf b, aw, ta, ins, nf F, nf O, nf G, nf H, nf S, nf D) = nI c := rfl
  obtain ⟨⟨g1, g2, g3, g4, g5⟩, g6, hg, ha, ht, hi', hb, hF, hD, hDb, zP, zr⟩ := h
  obtain ⟨x, x1, x2, x3, e2⟩ := settle_w (c := c) (m := m) (q := q) (B := B) (g := g) (P := P) (gu := gu) (b := b) (aw := aw) (ta := ta) (ins := ins) (F := F) (O := O) (G := G) (H := H) (S := S) (D := D) (w := i) (j := j) (r := P i) (by omega) (by omega) (by omega) (fun k => by have := hD k; omega)
  have un1 : un P j (P j + x) i = P i := un_ne hij
  have s1 := su_un (x := P j + x) (f := P) hj
  have s2 := su_un (x := P i - x) (f := un P j (P j + x)) hi
  refine ⟨x, p', x1, x2, x3, ?_, t.nil, ⟨g1, g2, g3, g4, g5⟩, by omega, hg, ha, ht, hi', hb, hF, fun k => ?_, fun k hk => ?_, (zP.un hj).un hi, zr⟩
  · simp (disch := omega) only [f_X5_repay, req2 (n := c) hc hi hj hij (by omega), e, bd_s, gi_ok, St_count, St_month, St_contribution, St_box, St_given, St_purse, St_guarantor, St_bid, St_away, St_taken, St_inside, St_paidForItself, St_paidForOthers, St_gotOfPot, St_shares, St_misses, St_debt, St_count_s, St_month_s, St_contribution_s, St_box_s, St_given_s, St_purse_s, St_guarantor_s, St_bid_s, St_away_s, St_taken_s, St_inside_s, St_paidForItself_s, St_paidForOthers_s, St_gotOfPot_s, St_shares_s, St_misses_s, St_debt_s, Rd_paid, Rd_missing, Rd_pence, Rd_paid_s, Rd_missing_s, Rd_pence_s, nI_clamp, nf_at, e2, lt_e, un1, nI_sub, nf_un]
  · by_cases q : k = i * 8 + j
    · subst q; rw [un_same]; have := hD (i * 8 + j); omega
    · rw [un_ne q]; exact hD k
  · by_cases q : k = i * 8 + j
    · exact ⟨i, j, hi, hj, hij, q⟩
    · rw [un_ne q] at hk; exact hDb k hk
end ACT
