/-! a month as a whole -/
def Ok (c m : Nat) (mo co : Int32) (gu bi aw ta ins pf po go sh : Nat → Int32) : Prop := c ≤ 8 ∧ mo = nI m ∧ (∃ q, 1 ≤ q ∧ q ≤ 50 ∧ co = nI q) ∧ Gu c gu ∧ Rg c 999 bi ∧ Bo c aw ∧ Bo c ta ∧ Bo c ins ∧ Rg c (50 * m) pf ∧ Rg c (400 * m) po ∧ Rg c 800 go ∧ Rg c (400 * m) sh
theorem Rg.mono {c B B' : Nat} {a : Nat → Int32} (h : Rg c B a) (hB : B ≤ B') : Rg c B' a := fun i hi => by
  obtain ⟨k, a1, a2⟩ := h i hi
  exact ⟨k, by omega, a2⟩
theorem Rg.upd {c B i x : Nat} {a : Nat → Int32} (h : Rg c B a) (hx : x ≤ B) : Rg c B (upd a i (nI x)) := fun j hj => by
  by_cases e : j = i
  · subst e; exact ⟨x, hx, upd_same _ _ _⟩
  · rw [upd_ne e]; exact h j hj
theorem Bo.upd {c i : Nat} {x : Int32} {a : Nat → Int32} (h : Bo c a) (hx : x = 0 ∨ x = 1) : Bo c (upd a i x) := fun j hj => by
  by_cases e : j = i
  · subst e; rw [upd_same]; exact hx
  · rw [upd_ne e]; exact h j hj
theorem cbd_nat {p b : Nat} (hp : p ≤ 800) (hb : b ≤ 1000) : ∃ y, y ≤ 400 ∧ y ≤ p ∧ cbd (nI p) (nI b) = nI y := by
  unfold cbd
  have e : nI p / (2:Int32) = nI (p / 2) := nI_div (b := 2) (by omega) (by omega)
  rw [e]
  by_cases h : nI (p / 2) < nI b
  · rw [if_pos h]; exact ⟨p / 2, by omega, by omega, rfl⟩
  · rw [if_neg h]
    rw [nI_lti (by omega) (by omega)] at h
    exact ⟨b, by omega, by omega, rfl⟩
section MONTH
variable {c : Nat} {mo co bo gv : Int32} {pu gu bi aw ta ins pf po go sh ms de : Nat → Int32}
variable {th : Int32} {z past : Nat → Int32} {pm : Int32} {sl sv sp tx : Nat → Int32} {ty : Int32} {hp mi : Nat → Int32} {pot : Int32} {rd : Nat → Int32} {spt wr : Int32}
variable {pd mg bx : Nat → Int32} {pn : Int32}
theorem N_bi {i : Nat} (h : c ≤ i) (h8 : i < 8) : upd (E c mo co bo gv pu gu bi aw ta ins pf po go sh ms de) (21 + i) (0:Int32) = (E c mo co bo gv pu gu bi aw ta ins pf po go sh ms de) := by
  have e := upd_self (E c mo co bo gv pu gu bi aw ta ins pf po go sh ms de) (21 + i)
  rw [Z_bi h h8] at e
  exact e
theorem N_aw {i : Nat} (h : c ≤ i) (h8 : i < 8) : upd (E c mo co bo gv pu gu bi aw ta ins pf po go sh ms de) (29 + i) (0:Int32) = (E c mo co bo gv pu gu bi aw ta ins pf po go sh ms de) := by
  have e := upd_self (E c mo co bo gv pu gu bi aw ta ins pf po go sh ms de) (29 + i)
  rw [Z_aw h h8] at e
  exact e
theorem end_rest (hc : c ≤ 8) {w : Int32} : One (lp (b_X6_goMonth_65 w) 9 (nI c, (th, (E c mo co bo gv pu gu bi aw ta ins pf po go sh ms de), past, pm, sl, sv, sp, tx, ty, hp, mi, pot, rd, spt, wr))) (fun f => f = (nI 8, (th, (E c mo co bo gv pu gu bi aw ta ins pf po go sh ms de), past, pm, sl, sv, sp, tx, ty, hp, mi, pot, rd, spt, wr))) := by
  refine lp_one (fun n s => ∃ i, s = (nI i, (th, (E c mo co bo gv pu gu bi aw ta ins pf po go sh ms de), past, pm, sl, sv, sp, tx, ty, hp, mi, pot, rd, spt, wr)) ∧ c ≤ i ∧ i ≤ 8 ∧ n = 8 - i) _ ?_ (n := 8 - c) ⟨c, rfl, Nat.le_refl _, hc, rfl⟩ (by omega)
  rintro n s ⟨i, rfl, h1, h2, rfl⟩ J hJ
  by_cases h : i = 8
  · subst h
    simp (disch := omega) only [b_X6_goMonth_65, St_count, St_month, St_contribution, St_box, St_given, St_purse, St_guarantor, St_bid, St_away, St_taken, St_inside, St_paidForItself, St_paidForOthers, St_gotOfPot, St_shares, St_misses, St_debt, St_count_s, St_month_s, St_contribution_s, St_box_s, St_given_s, St_purse_s, St_guarantor_s, St_bid_s, St_away_s, St_taken_s, St_inside_s, St_paidForItself_s, St_paidForOthers_s, St_gotOfPot_s, St_shares_s, St_misses_s, St_debt_s, Rd_paid, Rd_missing, Rd_pence, Rd_paid_s, Rd_missing_s, Rd_pence_s, Md_thrown, Md_z, Md_past, Md_pastMany, Md_slots, Md_isSaved, Md_spare, Md_text, Md_typed, Md_hasPaid, Md_misses, Md_potNow, Md_read, Md_spot, Md_wrong, Md_thrown_s, Md_z_s, Md_past_s, Md_pastMany_s, Md_slots_s, Md_isSaved_s, Md_spare_s, Md_text_s, Md_typed_s, Md_hasPaid_s, Md_misses_s, Md_potNow_s, Md_read_s, Md_spot_s, Md_wrong_s, mul8, mul8r, lt, bd_s, gi_ok, gz2, gz8, gz40, q_add, nI_s1, nI_clamp, upd_same, nar0, nar1, c0, c1, c2, c3, c4, g0_157, g1_157, g2_157, g3_157, g4_157, g0_1, a5, a13, a21, a29, a37, a45, a53, a61, a69, a77, a85, a93, le8, ↓reduceIte, Nat.le_refl]
    rfl
  · have h8 : ¬ 8 ≤ i := by omega
    simp (disch := omega) only [b_X6_goMonth_65, St_count, St_month, St_contribution, St_box, St_given, St_purse, St_guarantor, St_bid, St_away, St_taken, St_inside, St_paidForItself, St_paidForOthers, St_gotOfPot, St_shares, St_misses, St_debt, St_count_s, St_month_s, St_contribution_s, St_box_s, St_given_s, St_purse_s, St_guarantor_s, St_bid_s, St_away_s, St_taken_s, St_inside_s, St_paidForItself_s, St_paidForOthers_s, St_gotOfPot_s, St_shares_s, St_misses_s, St_debt_s, Rd_paid, Rd_missing, Rd_pence, Rd_paid_s, Rd_missing_s, Rd_pence_s, Md_thrown, Md_z, Md_past, Md_pastMany, Md_slots, Md_isSaved, Md_spare, Md_text, Md_typed, Md_hasPaid, Md_misses, Md_potNow, Md_read, Md_spot, Md_wrong, Md_thrown_s, Md_z_s, Md_past_s, Md_pastMany_s, Md_slots_s, Md_isSaved_s, Md_spare_s, Md_text_s, Md_typed_s, Md_hasPaid_s, Md_misses_s, Md_potNow_s, Md_read_s, Md_spot_s, Md_wrong_s, mul8, mul8r, lt, bd_s, gi_ok, gz2, gz8, gz40, q_add, nI_s1, nI_clamp, upd_same, nar0, nar1, c0, c1, c2, c3, c4, g0_157, g1_157, g2_157, g3_157, g4_157, g0_1, a5, a13, a21, a29, a37, a45, a53, a61, a69, a77, a85, a93, N_bi, N_aw, le8, h8, ↓reduceIte]
    exact hJ _ _ (by omega) ⟨i + 1, rfl, by omega, by omega, rfl⟩
theorem end_both (hc : c ≤ 8) {w w2 : Int32} : Two (lp (b_X1_pass_47 (pd, mg, pn) w) FU (nI 0, (nI c, mo, co, bo, gv, pu, gu, bi, aw, ta, ins, pf, po, go, sh, ms, de))) (lp (b_X6_goMonth_65 w2) FU (nI 0, (th, (E c mo co bo gv pu gu bi aw ta ins pf po go sh ms de), past, pm, sl, sv, sp, tx, ty, hp, mi, pot, rd, spt, wr))) (fun e f => ∃ bi' aw', e = (nI c, (nI c, mo, co, bo, gv, pu, gu, bi', aw', ta, ins, pf, po, go, sh, ms, de)) ∧ f = (nI 8, (th, (E c mo co bo gv pu gu bi' aw' ta ins pf po go sh ms de), past, pm, sl, sv, sp, tx, ty, hp, mi, pot, rd, spt, wr)) ∧ ∀ j, j < c → (bi' j = 0 ∧ aw' j = 0)) := by
  refine lp_tail (fun n s t => ∃ i bi' aw', s = (nI i, (nI c, mo, co, bo, gv, pu, gu, bi', aw', ta, ins, pf, po, go, sh, ms, de)) ∧ t = (nI i, (th, (E c mo co bo gv pu gu bi' aw' ta ins pf po go sh ms de), past, pm, sl, sv, sp, tx, ty, hp, mi, pot, rd, spt, wr)) ∧ i ≤ c ∧ n = c - i ∧ ∀ j, j < i → (bi' j = 0 ∧ aw' j = 0)) 9 _ ?_ (n := c) ⟨0, bi, aw, rfl, rfl, by omega, by omega, fun j h => by omega⟩ (FU_gt (by omega))
  rintro n s t ⟨i, bi', aw', rfl, rfl, h1, rfl, h2⟩ J X hJ hX
  by_cases h : i = c
  · subst h
    simp (disch := omega) only [b_X1_pass_47, St_count, St_month, St_contribution, St_box, St_given, St_purse, St_guarantor, St_bid, St_away, St_taken, St_inside, St_paidForItself, St_paidForOthers, St_gotOfPot, St_shares, St_misses, St_debt, St_count_s, St_month_s, St_contribution_s, St_box_s, St_given_s, St_purse_s, St_guarantor_s, St_bid_s, St_away_s, St_taken_s, St_inside_s, St_paidForItself_s, St_paidForOthers_s, St_gotOfPot_s, St_shares_s, St_misses_s, St_debt_s, Rd_paid, Rd_missing, Rd_pence, Rd_paid_s, Rd_missing_s, Rd_pence_s, Md_thrown, Md_z, Md_past, Md_pastMany, Md_slots, Md_isSaved, Md_spare, Md_text, Md_typed, Md_hasPaid, Md_misses, Md_potNow, Md_read, Md_spot, Md_wrong, Md_thrown_s, Md_z_s, Md_past_s, Md_pastMany_s, Md_slots_s, Md_isSaved_s, Md_spare_s, Md_text_s, Md_typed_s, Md_hasPaid_s, Md_misses_s, Md_potNow_s, Md_read_s, Md_spot_s, Md_wrong_s, mul8, mul8r, lt, bd_s, gi_ok, gz2, gz8, gz40, q_add, nI_s1, nI_clamp, upd_same, nar0, nar1, c0, c1, c2, c3, c4, g0_157, g1_157, g2_157, g3_157, g4_157, g0_1, a5, a13, a21, a29, a37, a45, a53, a61, a69, a77, a85, a93, nI_lei, Nat.le_refl, ↓reduceIte]
    refine hX _ (on_mono (end_rest hc) ?_)
    rintro f rfl
    exact ⟨bi', aw', rfl, rfl, h2⟩
  · have nc : ¬ c ≤ i := by omega
    have n8 : ¬ 8 ≤ i := by omega
    simp (disch := omega) only [b_X1_pass_47, b_X6_goMonth_65, St_count, St_month, St_contribution, St_box, St_given, St_purse, St_guarantor, St_bid, St_away, St_taken, St_inside, St_paidForItself, St_paidForOthers, St_gotOfPot, St_shares, St_misses, St_debt, St_count_s, St_month_s, St_contribution_s, St_box_s, St_given_s, St_purse_s, St_guarantor_s, St_bid_s, St_away_s, St_taken_s, St_inside_s, St_paidForItself_s, St_paidForOthers_s, St_gotOfPot_s, St_shares_s, St_misses_s, St_debt_s, Rd_paid, Rd_missing, Rd_pence, Rd_paid_s, Rd_missing_s, Rd_pence_s, Md_thrown, Md_z, Md_past, Md_pastMany, Md_slots, Md_isSaved, Md_spare, Md_text, Md_typed, Md_hasPaid, Md_misses, Md_potNow, Md_read, Md_spot, Md_wrong, Md_thrown_s, Md_z_s, Md_past_s, Md_pastMany_s, Md_slots_s, Md_isSaved_s, Md_spare_s, Md_text_s, Md_typed_s, Md_hasPaid_s, Md_misses_s, Md_potNow_s, Md_read_s, Md_spot_s, Md_wrong_s, mul8, mul8r, lt, bd_s, gi_ok, gz2, gz8, gz40, q_add, nI_s1, nI_clamp, upd_same, nar0, nar1, c0, c1, c2, c3, c4, g0_157, g1_157, g2_157, g3_157, g4_157, g0_1, a5, a13, a21, a29, a37, a45, a53, a61, a69, a77, a85, a93, U_1, U_2, U_3, U_4, U_pu, U_gu, U_bi, U_aw, U_ta, U_ins, U_pf, U_po, U_go, U_sh, U_ms, U_de, nI_lei, le8, nc, n8, nar0, ↓reduceIte]
    refine hJ _ _ _ (by omega) ⟨i + 1, _, _, rfl, rfl, by omega, rfl, fun j hj => ?_⟩
    by_cases e : j = i
    · subst e; rw [upd_same, upd_same]; exact ⟨rfl, rfl⟩
    · rw [upd_ne e, upd_ne e]; exact h2 j (by omega)
theorem Ok.next {m : Nat} {bi' aw' ta' pf' po' go' sh' : Nat → Int32} (ok : Ok c m mo co gu bi aw ta ins pf po go sh) (hz : ∀ j, j < c → (bi' j = 0 ∧ aw' j = 0)) (ht : Bo c ta') (h1 : Rg c (50 * m + 50) pf') (h2 : Rg c (400 * m + 400) po') (h3 : Rg c 800 go') (h4 : Rg c (400 * m + 400) sh') : Ok c (m + 1) (nI (m + 1)) co gu bi' aw' ta' ins pf' po' go' sh' := by
  obtain ⟨a1, a2, a3, a4, a5, a6, a7, a8, a9, a10, a11, a12⟩ := ok
  exact ⟨a1, rfl, a3, a4, fun j hj => ⟨0, by omega, (hz j hj).1⟩, fun j hj => Or.inl (hz j hj).2, ht, a8, h1.mono (by omega), h2.mono (by omega), h3, h4.mono (by omega)⟩
/-- a month on both sides; on the class's side what comes in is told for any bids -/
theorem month_go {m : Nat} (ok : Ok c m mo co gu bi aw ta ins pf po go sh) (hm : m ≤ 1000) : ∃ w pd' mg' t hp' mi' bo' pu' bi' aw' ta' pf' po' go' sh' ms' de', f_X1_pass (pd, mg, pn) (nI c, mo, co, bo, gv, pu, gu, bi, aw, ta, ins, pf, po, go, sh, ms, de) = some (w, ((pd', mg', nI t), (nI c, nI (m + 1), co, bo', gv, pu', gu, bi', aw', ta', ins, pf', po', go', sh', ms', de'))) ∧ f_X6_goMonth (th, (E c mo co bo gv pu gu bi aw ta ins pf po go sh ms de), past, pm, sl, sv, sp, tx, ty, hp, mi, pot, rd, spt, wr) = some (w, (th, (E c (nI (m + 1)) co bo' gv pu' gu bi' aw' ta' ins pf' po' go' sh' ms' de'), past, pm, sl, sv, sp, tx, ty, hp', mi', nI t, rd, spt, wr)) ∧ Ok c (m + 1) (nI (m + 1)) co gu bi' aw' ta' ins pf' po' go' sh' ∧ t ≤ 800 ∧ (w = tkS (cnT ins mg' ta) (fun i => cbd (nI t) (bi i)) (m % c) c c) := by
  obtain ⟨hc, hmo, ⟨q, hq1, hq5, hq⟩, hg, hb, ha, ht, hi, hpf, hpo, hgo, hsh⟩ := id ok
  obtain ⟨pd', mg', hp', mi1, mi', t1, t2, pu1, pf', pu2, po', ms', de2, e1, e2, e3, h1, h2, h3, h4⟩ := pays (th := th) (past := past) (pm := pm) (sl := sl) (sv := sv) (sp := sp) (tx := tx) (ty := ty) (hp := hp) (mi := mi) (pot := pot) (rd := rd) (spt := spt) (wr := wr) (pd := pd) (mg := mg) (pn := pn) (mo := mo) (bo := bo) (gv := gv) (pu := pu) (bi := bi) (bx := bi) (ta := ta) (go := go) (sh := sh) (ms := ms) (de := de) hc hi ha hg hq hq5 hpf hpo
  have f1 := taker_x (co := co) (bo := bo) (gv := gv) (pu := pu2) (gu := gu) (bi := bi) (aw := aw) (ta := ta) (pf := pf') (po := po') (go := go) (sh := sh) (ms := ms') (de := de2) (pd := pd') (mg := mg') (pn := nI (t1 + t2)) hc hi ht (fun j hj => (h4 j hj).2) hmo (by omega)
  have f2 := take_m (th := th) (past := past) (pm := pm) (sl := sl) (sv := sv) (sp := sp) (tx := tx) (ty := ty) (hp := hp') (mi := mi') (pot := nI (t1 + t2)) (rd := rd) (spt := spt) (wr := wr) (co := co) (bo := bo) (gv := gv) (pu := pu2) (gu := gu) (bi := bi) (aw := aw) (ta := ta) (pf := pf') (po := po') (go := go) (sh := sh) (ms := ms') (de := de2) (mg := mg') (p := nI (t1 + t2)) hc hi ht h4 hmo (by omega)
  subst hmo
  generalize hw : tkS (cnT ins mg' ta) (fun i => cbd (nI (t1 + t2)) (bi i)) (m % c) c c = w at f1 f2
  have hw2 : w = (-99999:Int32) ∨ ∃ j, j < c ∧ w = nI j := by
    by_cases h0 : c = 0
    · subst h0; exact Or.inl hw.symm
    · rcases tkS_is (can := cnT ins mg' ta) (cb := fun i => cbd (nI (t1 + t2)) (bi i)) (p := m % c) (c := c) (by omega) c with h | ⟨j, h5, -, h6⟩
      · exact Or.inl (hw.symm.trans h)
      · exact Or.inr ⟨j, h5, hw.symm.trans h6⟩
  rcases hw2 with rfl | ⟨j, hj, rfl⟩
  · obtain ⟨ex, em, g1, g2, bi', aw', rfl, rfl, h5⟩ := tw_get (end_both (th := th) (past := past) (pm := pm) (sl := sl) (sv := sv) (sp := sp) (tx := tx) (ty := ty) (hp := hp') (mi := mi') (pot := nI (t1 + t2)) (rd := rd) (spt := spt) (wr := wr) (mo := nI m) (co := co) (bo := bo + nI (t1 + t2)) (gv := gv) (pu := pu2) (gu := gu) (bi := bi) (aw := aw) (ta := ta) (ins := ins) (pf := pf') (po := po') (go := go) (sh := sh) (ms := ms') (de := de2) (pd := pd') (mg := mg') (pn := nI (t1 + t2)) (w := (-99999:Int32)) (w2 := (-99999:Int32)) hc)
    have g1 : lp (b_X1_pass_47 (pd', mg', nI (t1 + t2)) (-99999:Int32)) FU ((0:Int32), (nI c, nI m, co, bo + nI (t1 + t2), gv, pu2, gu, bi, aw, ta, ins, pf', po', go, sh, ms', de2)) = _ := g1
    have g2 : lp (b_X6_goMonth_65 (-99999:Int32)) FU ((0:Int32), (th, (E c (nI m) co (bo + nI (t1 + t2)) gv pu2 gu bi aw ta ins pf' po' go sh ms' de2), past, pm, sl, sv, sp, tx, ty, hp', mi', nI (t1 + t2), rd, spt, wr)) = _ := g2
    refine ⟨(-99999:Int32), pd', mg', t1 + t2, hp', mi', bo + nI (t1 + t2), pu2, bi', aw', ta, pf', po', go, sh, ms', de2, ?_, ?_, ok.next h5 ht h2 h3 hgo (hsh.mono (by omega)), h1, hw.symm⟩
    · simp only [f_X1_pass, e1, f1, g1, bd_s, lt, St_count, St_month, St_contribution, St_box, St_given, St_purse, St_guarantor, St_bid, St_away, St_taken, St_inside, St_paidForItself, St_paidForOthers, St_gotOfPot, St_shares, St_misses, St_debt, St_count_s, St_month_s, St_contribution_s, St_box_s, St_given_s, St_purse_s, St_guarantor_s, St_bid_s, St_away_s, St_taken_s, St_inside_s, St_paidForItself_s, St_paidForOthers_s, St_gotOfPot_s, St_shares_s, St_misses_s, St_debt_s, Rd_paid, Rd_missing, Rd_pence, Rd_paid_s, Rd_missing_s, Rd_pence_s, Md_thrown, Md_z, Md_past, Md_pastMany, Md_slots, Md_isSaved, Md_spare, Md_text, Md_typed, Md_hasPaid, Md_misses, Md_potNow, Md_read, Md_spot, Md_wrong, Md_thrown_s, Md_z_s, Md_past_s, Md_pastMany_s, Md_slots_s, Md_isSaved_s, Md_spare_s, Md_text_s, Md_typed_s, Md_hasPaid_s, Md_misses_s, Md_potNow_s, Md_read_s, Md_spot_s, Md_wrong_s, nI_s1, ↓reduceIte]
    · simp only [f_X6_goMonth, e2, e3, f2, g2, bd_s, mul8, mul8r, lt, bd_s, gi_ok, gz2, gz8, gz40, q_add, nI_s1, nI_clamp, upd_same, nar0, nar1, c0, c1, c2, c3, c4, g0_157, g1_157, g2_157, g3_157, g4_157, g0_1, a5, a13, a21, a29, a37, a45, a53, a61, a69, a77, a85, a93, St_count, St_month, St_contribution, St_box, St_given, St_purse, St_guarantor, St_bid, St_away, St_taken, St_inside, St_paidForItself, St_paidForOthers, St_gotOfPot, St_shares, St_misses, St_debt, St_count_s, St_month_s, St_contribution_s, St_box_s, St_given_s, St_purse_s, St_guarantor_s, St_bid_s, St_away_s, St_taken_s, St_inside_s, St_paidForItself_s, St_paidForOthers_s, St_gotOfPot_s, St_shares_s, St_misses_s, St_debt_s, Rd_paid, Rd_missing, Rd_pence, Rd_paid_s, Rd_missing_s, Rd_pence_s, Md_thrown, Md_z, Md_past, Md_pastMany, Md_slots, Md_isSaved, Md_spare, Md_text, Md_typed, Md_hasPaid, Md_misses, Md_potNow, Md_read, Md_spot, Md_wrong, Md_thrown_s, Md_z_s, Md_past_s, Md_pastMany_s, Md_slots_s, Md_isSaved_s, Md_spare_s, Md_text_s, Md_typed_s, Md_hasPaid_s, Md_misses_s, Md_potNow_s, Md_read_s, Md_spot_s, Md_wrong_s, U_1, U_2, U_3, U_4, U_pu, U_gu, U_bi, U_aw, U_ta, U_ins, U_pf, U_po, U_go, U_sh, U_ms, U_de, E_0, E_1, E_2, E_3, E_4, E_pu, E_gu, E_bi, E_aw, E_ta, E_ins, E_pf, E_po, E_go, E_sh, E_ms, E_de, ↓reduceIte]
  · have hn : ¬ nI j = (-99999:Int32) := fun h => (nI_neg (by omega)).mp h
    obtain ⟨b, hb1, hb2⟩ := hb j hj
    obtain ⟨y, hy1, hy2, hy3⟩ := cbd_nat (p := t1 + t2) (b := b) h1 (by omega)
    rw [← hb2] at hy3
    obtain ⟨pu3, sh', bo', s1, s2, h6⟩ := share (th := th) (past := past) (pm := pm) (sl := sl) (sv := sv) (sp := sp) (tx := tx) (ty := ty) (hp := hp') (mi := mi') (pot := nI (t1 + t2)) (rd := rd) (spt := spt) (wr := wr) (mo := nI m) (co := co) (bo := bo) (gv := gv) (pu := pu2) (gu := gu) (bi := bi) (aw := aw) (ta := ta) (ins := ins) (pf := pf') (po := po') (go := go) (sh := sh) (ms := ms') (de := de2) (pd := pd') (mg := mg') (pn := nI (t1 + t2)) hc hi h4 hj hy1 hsh hy3
    obtain ⟨pu4, de4, s3, s4⟩ := pout (th := th) (past := past) (pm := pm) (sl := sl) (sv := sv) (sp := sp) (tx := tx) (ty := ty) (hp := hp') (mi := mi') (pot := nI (t1 + t2)) (rd := rd) (spt := spt) (wr := wr) (mo := nI m) (co := co) (bo := bo') (gv := gv) (pu := pu3) (gu := gu) (bi := bi) (aw := aw) (ta := ta) (ins := ins) (pf := pf') (po := po') (go := go) (sh := sh') (ms := ms') (de := de2) (pd := pd') (mg := mg') (pn := nI (t1 + t2)) hc hj
    rw [hy3] at s3 s4
    have hgo' : Rg c 800 (upd go j (nI (t1 + t2) - nI y)) := by
      rw [nI_sub hy2]
      exact hgo.upd (by omega)
    obtain ⟨ex, em, g1, g2, bi', aw', rfl, rfl, h5⟩ := tw_get (end_both (th := th) (past := past) (pm := pm) (sl := sl) (sv := sv) (sp := sp) (tx := tx) (ty := ty) (hp := hp') (mi := mi') (pot := nI (t1 + t2)) (rd := rd) (spt := spt) (wr := wr) (mo := nI m) (co := co) (bo := bo') (gv := gv) (pu := pu4) (gu := gu) (bi := bi) (aw := aw) (ta := upd ta j 1) (ins := ins) (pf := pf') (po := po') (go := upd go j (nI (t1 + t2) - nI y)) (sh := sh') (ms := ms') (de := de4) (pd := pd') (mg := mg') (pn := nI (t1 + t2)) (w := nI j) (w2 := nI j) hc)
    have g1 : lp (b_X1_pass_47 (pd', mg', nI (t1 + t2)) (nI j)) FU ((0:Int32), (nI c, nI m, co, bo', gv, pu4, gu, bi, aw, upd ta j 1, ins, pf', po', upd go j (nI (t1 + t2) - nI y), sh', ms', de4)) = _ := g1
    have g2 : lp (b_X6_goMonth_65 (nI j)) FU ((0:Int32), (th, (E c (nI m) co bo' gv pu4 gu bi aw (upd ta j 1) ins pf' po' (upd go j (nI (t1 + t2) - nI y)) sh' ms' de4), past, pm, sl, sv, sp, tx, ty, hp', mi', nI (t1 + t2), rd, spt, wr)) = _ := g2
    refine ⟨nI j, pd', mg', t1 + t2, hp', mi', bo', pu4, bi', aw', upd ta j 1, pf', po', upd go j (nI (t1 + t2) - nI y), sh', ms', de4, ?_, ?_, ok.next h5 (ht.upd (Or.inr rfl)) h2 h3 hgo' h6, h1, hw.symm⟩
    · simp only [f_X1_pass, e1, f1, s1, s3, g1, hn, bd_s, lt, St_count, St_month, St_contribution, St_box, St_given, St_purse, St_guarantor, St_bid, St_away, St_taken, St_inside, St_paidForItself, St_paidForOthers, St_gotOfPot, St_shares, St_misses, St_debt, St_count_s, St_month_s, St_contribution_s, St_box_s, St_given_s, St_purse_s, St_guarantor_s, St_bid_s, St_away_s, St_taken_s, St_inside_s, St_paidForItself_s, St_paidForOthers_s, St_gotOfPot_s, St_shares_s, St_misses_s, St_debt_s, Rd_paid, Rd_missing, Rd_pence, Rd_paid_s, Rd_missing_s, Rd_pence_s, Md_thrown, Md_z, Md_past, Md_pastMany, Md_slots, Md_isSaved, Md_spare, Md_text, Md_typed, Md_hasPaid, Md_misses, Md_potNow, Md_read, Md_spot, Md_wrong, Md_thrown_s, Md_z_s, Md_past_s, Md_pastMany_s, Md_slots_s, Md_isSaved_s, Md_spare_s, Md_text_s, Md_typed_s, Md_hasPaid_s, Md_misses_s, Md_potNow_s, Md_read_s, Md_spot_s, Md_wrong_s, nI_s1, ↓reduceIte]
    · simp only [f_X6_goMonth, e2, e3, f2, bid_m hj hc, hy3, s2, s4, g2, hn, bd_s, lt, q_add, g2_157, c2, nI_s1, St_count, St_month, St_contribution, St_box, St_given, St_purse, St_guarantor, St_bid, St_away, St_taken, St_inside, St_paidForItself, St_paidForOthers, St_gotOfPot, St_shares, St_misses, St_debt, St_count_s, St_month_s, St_contribution_s, St_box_s, St_given_s, St_purse_s, St_guarantor_s, St_bid_s, St_away_s, St_taken_s, St_inside_s, St_paidForItself_s, St_paidForOthers_s, St_gotOfPot_s, St_shares_s, St_misses_s, St_debt_s, Rd_paid, Rd_missing, Rd_pence, Rd_paid_s, Rd_missing_s, Rd_pence_s, Md_thrown, Md_z, Md_past, Md_pastMany, Md_slots, Md_isSaved, Md_spare, Md_text, Md_typed, Md_hasPaid, Md_misses, Md_potNow, Md_read, Md_spot, Md_wrong, Md_thrown_s, Md_z_s, Md_past_s, Md_pastMany_s, Md_slots_s, Md_isSaved_s, Md_spare_s, Md_text_s, Md_typed_s, Md_hasPaid_s, Md_misses_s, Md_potNow_s, Md_read_s, Md_spot_s, Md_wrong_s, E_2, U_2, ↓reduceIte]
end MONTH
