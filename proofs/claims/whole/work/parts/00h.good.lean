/-! good states; what both sides ask of them -/
theorem row_ext {c o : Nat} {f g : Nat → Int32} (h : ∀ j, j < c → f j = g j) : row c o f = row c o g := by
  funext n
  unfold row
  by_cases q : n - o < c
  · rw [if_pos q, if_pos q]; exact h _ q
  · rw [if_neg q, if_neg q]
def Gs (c m : Nat) (v : StV) (z : Nat → Int32) : Prop := ∃ (mo co bo gv : Int32) (pu gu bi aw ta ins pf po go sh ms de : Nat → Int32), v = (nI c, mo, co, bo, gv, pu, gu, bi, aw, ta, ins, pf, po, go, sh, ms, de) ∧ z = (E c mo co bo gv pu gu bi aw ta ins pf po go sh ms de) ∧ Ok c m mo co gu bi aw ta ins pf po go sh
section GOOD
variable {c : Nat} {mo co bo gv : Int32} {pu gu bi aw ta ins pf po go sh ms de : Nat → Int32}
variable {th : Int32} {z past : Nat → Int32} {pm : Int32} {sl sv sp tx : Nat → Int32} {ty : Int32} {hp mi : Nat → Int32} {pot : Int32} {rd : Nat → Int32} {spt wr : Int32}
variable {pu' gu' bi' aw' ta' ins' pf' po' go' sh' ms' de' : Nat → Int32}
theorem E_ext (h : ∀ j, j < c → (pu' j = pu j ∧ gu' j = gu j ∧ bi' j = bi j ∧ aw' j = aw j ∧ ta' j = ta j ∧ ins' j = ins j ∧ pf' j = pf j ∧ po' j = po j ∧ go' j = go j ∧ sh' j = sh j ∧ ms' j = ms j)) (hd : ∀ k, k < 64 → de' k = de k) : (E c mo co bo gv pu' gu' bi' aw' ta' ins' pf' po' go' sh' ms' de') = (E c mo co bo gv pu gu bi aw ta ins pf po go sh ms de) := by
  funext n
  unfold E
  rw [row_ext (f := pu') (g := pu) (fun j hj => (h j hj).1)]
  rw [row_ext (f := gu') (g := gu) (fun j hj => (h j hj).2.1)]
  rw [row_ext (f := bi') (g := bi) (fun j hj => (h j hj).2.2.1)]
  rw [row_ext (f := aw') (g := aw) (fun j hj => (h j hj).2.2.2.1)]
  rw [row_ext (f := ta') (g := ta) (fun j hj => (h j hj).2.2.2.2.1)]
  rw [row_ext (f := ins') (g := ins) (fun j hj => (h j hj).2.2.2.2.2.1)]
  rw [row_ext (f := pf') (g := pf) (fun j hj => (h j hj).2.2.2.2.2.2.1)]
  rw [row_ext (f := po') (g := po) (fun j hj => (h j hj).2.2.2.2.2.2.2.1)]
  rw [row_ext (f := go') (g := go) (fun j hj => (h j hj).2.2.2.2.2.2.2.2.1)]
  rw [row_ext (f := sh') (g := sh) (fun j hj => (h j hj).2.2.2.2.2.2.2.2.2.1)]
  rw [row_ext (f := ms') (g := ms) (fun j hj => (h j hj).2.2.2.2.2.2.2.2.2.2)]
  have e : (if n < 157 then de' (n - 93) else 0) = if n < 157 then de (n - 93) else 0 := by
    by_cases q : n < 157
    · rw [if_pos q, if_pos q]; exact hd _ (by omega)
    · rw [if_neg q, if_neg q]
  rw [e]
theorem Bo.ext {a b : Nat → Int32} (h : Bo c a) (e : ∀ j, j < c → b j = a j) : Bo c b := fun j hj => by rw [e j hj]; exact h j hj
theorem Gu.ext {a b : Nat → Int32} (h : Gu c a) (e : ∀ j, j < c → b j = a j) : Gu c b := fun j hj => by rw [e j hj]; exact h j hj
theorem Rg.ext {B : Nat} {a b : Nat → Int32} (h : Rg c B a) (e : ∀ j, j < c → b j = a j) : Rg c B b := fun j hj => by rw [e j hj]; exact h j hj
theorem Ok.ext {m : Nat} (ok : Ok c m mo co gu bi aw ta ins pf po go sh) (h : ∀ j, j < c → (pu' j = pu j ∧ gu' j = gu j ∧ bi' j = bi j ∧ aw' j = aw j ∧ ta' j = ta j ∧ ins' j = ins j ∧ pf' j = pf j ∧ po' j = po j ∧ go' j = go j ∧ sh' j = sh j ∧ ms' j = ms j)) : Ok c m mo co gu' bi' aw' ta' ins' pf' po' go' sh' := by
  obtain ⟨a1, a2, a3, a4, a5, a6, a7, a8, a9, a10, a11, a12⟩ := ok
  exact ⟨a1, a2, a3, a4.ext (fun j hj => (h j hj).2.1), a5.ext (fun j hj => (h j hj).2.2.1), a6.ext (fun j hj => (h j hj).2.2.2.1), a7.ext (fun j hj => (h j hj).2.2.2.2.1), a8.ext (fun j hj => (h j hj).2.2.2.2.2.1), a9.ext (fun j hj => (h j hj).2.2.2.2.2.2.1), a10.ext (fun j hj => (h j hj).2.2.2.2.2.2.2.1), a11.ext (fun j hj => (h j hj).2.2.2.2.2.2.2.2.1), a12.ext (fun j hj => (h j hj).2.2.2.2.2.2.2.2.2.1)⟩
theorem copy_rows {fu : Nat} (hf : 8 < fu) {pu0 gu0 bi0 aw0 ta0 ins0 pf0 po0 go0 sh0 ms0 : Nat → Int32} : One (lp (b_X3_copyFrom_42 (nI c, mo, co, bo, gv, pu, gu, bi, aw, ta, ins, pf, po, go, sh, ms, de)) fu ((0:Int32), (nI c, mo, co, bo, gv, pu0, gu0, bi0, aw0, ta0, ins0, pf0, po0, go0, sh0, ms0, de'))) (fun e => ∃ pu' gu' bi' aw' ta' ins' pf' po' go' sh' ms', e = (nI 8, (nI c, mo, co, bo, gv, pu', gu', bi', aw', ta', ins', pf', po', go', sh', ms', de')) ∧ ∀ j, j < 8 → (pu' j = pu j ∧ gu' j = gu j ∧ bi' j = bi j ∧ aw' j = vp_nar .boolean (aw j) ∧ ta' j = vp_nar .boolean (ta j) ∧ ins' j = vp_nar .boolean (ins j) ∧ pf' j = pf j ∧ po' j = po j ∧ go' j = go j ∧ sh' j = sh j ∧ ms' j = ms j)) := by
  refine lp_one (fun n s => ∃ i pu' gu' bi' aw' ta' ins' pf' po' go' sh' ms', s = (nI i, (nI c, mo, co, bo, gv, pu', gu', bi', aw', ta', ins', pf', po', go', sh', ms', de')) ∧ i ≤ 8 ∧ n = 8 - i ∧ ∀ j, j < i → (pu' j = pu j ∧ gu' j = gu j ∧ bi' j = bi j ∧ aw' j = vp_nar .boolean (aw j) ∧ ta' j = vp_nar .boolean (ta j) ∧ ins' j = vp_nar .boolean (ins j) ∧ pf' j = pf j ∧ po' j = po j ∧ go' j = go j ∧ sh' j = sh j ∧ ms' j = ms j)) _ ?_ (n := 8) ⟨0, pu0, gu0, bi0, aw0, ta0, ins0, pf0, po0, go0, sh0, ms0, rfl, by omega, by omega, fun j h => by omega⟩ hf
  rintro n s ⟨i, pu', gu', bi', aw', ta', ins', pf', po', go', sh', ms', rfl, h1, rfl, h2⟩ J hJ
  by_cases h : i = 8
  · subst h
    simp (disch := omega) only [b_X3_copyFrom_42, St_count, St_month, St_contribution, St_box, St_given, St_purse, St_guarantor, St_bid, St_away, St_taken, St_inside, St_paidForItself, St_paidForOthers, St_gotOfPot, St_shares, St_misses, St_debt, St_count_s, St_month_s, St_contribution_s, St_box_s, St_given_s, St_purse_s, St_guarantor_s, St_bid_s, St_away_s, St_taken_s, St_inside_s, St_paidForItself_s, St_paidForOthers_s, St_gotOfPot_s, St_shares_s, St_misses_s, St_debt_s, Rd_paid, Rd_missing, Rd_pence, Rd_paid_s, Rd_missing_s, Rd_pence_s, Md_thrown, Md_z, Md_past, Md_pastMany, Md_slots, Md_isSaved, Md_spare, Md_text, Md_typed, Md_hasPaid, Md_misses, Md_potNow, Md_read, Md_spot, Md_wrong, Md_thrown_s, Md_z_s, Md_past_s, Md_pastMany_s, Md_slots_s, Md_isSaved_s, Md_spare_s, Md_text_s, Md_typed_s, Md_hasPaid_s, Md_misses_s, Md_potNow_s, Md_read_s, Md_spot_s, Md_wrong_s, mul8, mul8r, lt_e, bd_s, gi_ok, gz2, gz8, gz40, q_add, nI_s1, nI_clamp, upd_same, nar0, nar1, c0, c1, c2, c3, c4, g0_157, g1_157, g2_157, g3_157, g4_157, g0_1, a5, a13, a21, a29, a37, a45, a53, a61, a69, a77, a85, a93, le8, Nat.le_refl, ↓reduceIte]
    exact ⟨pu', gu', bi', aw', ta', ins', pf', po', go', sh', ms', rfl, h2⟩
  · have n8 : ¬ 8 ≤ i := by omega
    simp (disch := omega) only [b_X3_copyFrom_42, St_count, St_month, St_contribution, St_box, St_given, St_purse, St_guarantor, St_bid, St_away, St_taken, St_inside, St_paidForItself, St_paidForOthers, St_gotOfPot, St_shares, St_misses, St_debt, St_count_s, St_month_s, St_contribution_s, St_box_s, St_given_s, St_purse_s, St_guarantor_s, St_bid_s, St_away_s, St_taken_s, St_inside_s, St_paidForItself_s, St_paidForOthers_s, St_gotOfPot_s, St_shares_s, St_misses_s, St_debt_s, Rd_paid, Rd_missing, Rd_pence, Rd_paid_s, Rd_missing_s, Rd_pence_s, Md_thrown, Md_z, Md_past, Md_pastMany, Md_slots, Md_isSaved, Md_spare, Md_text, Md_typed, Md_hasPaid, Md_misses, Md_potNow, Md_read, Md_spot, Md_wrong, Md_thrown_s, Md_z_s, Md_past_s, Md_pastMany_s, Md_slots_s, Md_isSaved_s, Md_spare_s, Md_text_s, Md_typed_s, Md_hasPaid_s, Md_misses_s, Md_potNow_s, Md_read_s, Md_spot_s, Md_wrong_s, mul8, mul8r, lt_e, bd_s, gi_ok, gz2, gz8, gz40, q_add, nI_s1, nI_clamp, upd_same, nar0, nar1, c0, c1, c2, c3, c4, g0_157, g1_157, g2_157, g3_157, g4_157, g0_1, a5, a13, a21, a29, a37, a45, a53, a61, a69, a77, a85, a93, le8, n8, ↓reduceIte]
    refine hJ _ _ (by omega) ⟨i + 1, _, _, _, _, _, _, _, _, _, _, _, rfl, by omega, rfl, fun j hj => ?_⟩
    by_cases e : j = i
    · subst e
      simp only [upd_same, and_self]
    · simp only [upd_ne e]
      exact h2 j (by omega)
theorem copy_debt {fu : Nat} (hf : 64 < fu) {de0 : Nat → Int32} : One (lp (b_X3_copyFrom_188 (nI c, mo, co, bo, gv, pu, gu, bi, aw, ta, ins, pf, po, go, sh, ms, de)) fu ((0:Int32), (nI c, mo, co, bo, gv, pu', gu', bi', aw', ta', ins', pf', po', go', sh', ms', de0))) (fun e => ∃ de', e = (nI 64, (nI c, mo, co, bo, gv, pu', gu', bi', aw', ta', ins', pf', po', go', sh', ms', de')) ∧ ∀ k, k < 64 → de' k = de k) := by
  refine lp_one (fun n s => ∃ i de', s = (nI i, (nI c, mo, co, bo, gv, pu', gu', bi', aw', ta', ins', pf', po', go', sh', ms', de')) ∧ i ≤ 64 ∧ n = 64 - i ∧ ∀ k, k < i → de' k = de k) _ ?_ (n := 64) ⟨0, de0, rfl, by omega, by omega, fun j h => by omega⟩ hf
  rintro n s ⟨i, de', rfl, h1, rfl, h2⟩ J hJ
  by_cases h : i = 64
  · subst h
    simp (disch := omega) only [b_X3_copyFrom_188, St_count, St_month, St_contribution, St_box, St_given, St_purse, St_guarantor, St_bid, St_away, St_taken, St_inside, St_paidForItself, St_paidForOthers, St_gotOfPot, St_shares, St_misses, St_debt, St_count_s, St_month_s, St_contribution_s, St_box_s, St_given_s, St_purse_s, St_guarantor_s, St_bid_s, St_away_s, St_taken_s, St_inside_s, St_paidForItself_s, St_paidForOthers_s, St_gotOfPot_s, St_shares_s, St_misses_s, St_debt_s, Rd_paid, Rd_missing, Rd_pence, Rd_paid_s, Rd_missing_s, Rd_pence_s, Md_thrown, Md_z, Md_past, Md_pastMany, Md_slots, Md_isSaved, Md_spare, Md_text, Md_typed, Md_hasPaid, Md_misses, Md_potNow, Md_read, Md_spot, Md_wrong, Md_thrown_s, Md_z_s, Md_past_s, Md_pastMany_s, Md_slots_s, Md_isSaved_s, Md_spare_s, Md_text_s, Md_typed_s, Md_hasPaid_s, Md_misses_s, Md_potNow_s, Md_read_s, Md_spot_s, Md_wrong_s, mul8, mul8r, lt_e, bd_s, gi_ok, gz2, gz8, gz40, q_add, nI_s1, nI_clamp, upd_same, nar0, nar1, c0, c1, c2, c3, c4, g0_157, g1_157, g2_157, g3_157, g4_157, g0_1, a5, a13, a21, a29, a37, a45, a53, a61, a69, a77, a85, a93, le64, Nat.le_refl, ↓reduceIte]
    exact ⟨de', rfl, h2⟩
  · have n8 : ¬ 64 ≤ i := by omega
    simp (disch := omega) only [b_X3_copyFrom_188, St_count, St_month, St_contribution, St_box, St_given, St_purse, St_guarantor, St_bid, St_away, St_taken, St_inside, St_paidForItself, St_paidForOthers, St_gotOfPot, St_shares, St_misses, St_debt, St_count_s, St_month_s, St_contribution_s, St_box_s, St_given_s, St_purse_s, St_guarantor_s, St_bid_s, St_away_s, St_taken_s, St_inside_s, St_paidForItself_s, St_paidForOthers_s, St_gotOfPot_s, St_shares_s, St_misses_s, St_debt_s, Rd_paid, Rd_missing, Rd_pence, Rd_paid_s, Rd_missing_s, Rd_pence_s, Md_thrown, Md_z, Md_past, Md_pastMany, Md_slots, Md_isSaved, Md_spare, Md_text, Md_typed, Md_hasPaid, Md_misses, Md_potNow, Md_read, Md_spot, Md_wrong, Md_thrown_s, Md_z_s, Md_past_s, Md_pastMany_s, Md_slots_s, Md_isSaved_s, Md_spare_s, Md_text_s, Md_typed_s, Md_hasPaid_s, Md_misses_s, Md_potNow_s, Md_read_s, Md_spot_s, Md_wrong_s, mul8, mul8r, lt_e, bd_s, gi_ok, gz2, gz8, gz40, q_add, nI_s1, nI_clamp, upd_same, nar0, nar1, c0, c1, c2, c3, c4, g0_157, g1_157, g2_157, g3_157, g4_157, g0_1, a5, a13, a21, a29, a37, a45, a53, a61, a69, a77, a85, a93, le64, n8, ↓reduceIte]
    refine hJ _ _ (by omega) ⟨i + 1, _, rfl, by omega, rfl, fun j hj => ?_⟩
    by_cases e : j = i
    · subst e; rw [upd_same]
    · rw [upd_ne e]; exact h2 j (by omega)
theorem nar_bo {x : Int32} (h : x = 0 ∨ x = 1) : vp_nar .boolean x = x := by
  rcases h with rfl | rfl
  · rfl
  · rfl
end GOOD
theorem Gs.copy {c m : Nat} {v : StV} {z : Nat → Int32} (h : Gs c m v z) (v0 : StV) : ∃ v', f_X3_copyFrom v0 v = some ((), v') ∧ Gs c m v' z := by
  obtain ⟨mo, co, bo, gv, pu, gu, bi, aw, ta, ins, pf, po, go, sh, ms, de, rfl, rfl, ok⟩ := h
  obtain ⟨c0, mo0, co0, bo0, gv0, pu0, gu0, bi0, aw0, ta0, ins0, pf0, po0, go0, sh0, ms0, de0⟩ := v0
  obtain ⟨e, a1, pu', gu', bi', aw', ta', ins', pf', po', go', sh', ms', rfl, h2⟩ := lp_get (n := 8) (by omega) (fun fu hf => copy_rows (fu := fu) hf (c := c) (mo := mo) (co := co) (bo := bo) (gv := gv) (pu := pu) (gu := gu) (bi := bi) (aw := aw) (ta := ta) (ins := ins) (pf := pf) (po := po) (go := go) (sh := sh) (ms := ms) (de := de) (de' := de0) (pu0 := pu0) (gu0 := gu0) (bi0 := bi0) (aw0 := aw0) (ta0 := ta0) (ins0 := ins0) (pf0 := pf0) (po0 := po0) (go0 := go0) (sh0 := sh0) (ms0 := ms0))
  obtain ⟨e, a2, de', rfl, h3⟩ := lp_get (n := 64) (by omega) (fun fu hf => copy_debt (fu := fu) hf (c := c) (mo := mo) (co := co) (bo := bo) (gv := gv) (pu := pu) (gu := gu) (bi := bi) (aw := aw) (ta := ta) (ins := ins) (pf := pf) (po := po) (go := go) (sh := sh) (ms := ms) (de := de) (de0 := de0) (pu' := pu') (gu' := gu') (bi' := bi') (aw' := aw') (ta' := ta') (ins' := ins') (pf' := pf') (po' := po') (go' := go') (sh' := sh') (ms' := ms'))
  refine ⟨(nI c, mo, co, bo, gv, pu', gu', bi', aw', ta', ins', pf', po', go', sh', ms', de'), ?_, ?_⟩
  · simp only [f_X3_copyFrom, St_count, St_month, St_contribution, St_box, St_given, St_purse, St_guarantor, St_bid, St_away, St_taken, St_inside, St_paidForItself, St_paidForOthers, St_gotOfPot, St_shares, St_misses, St_debt, St_count_s, St_month_s, St_contribution_s, St_box_s, St_given_s, St_purse_s, St_guarantor_s, St_bid_s, St_away_s, St_taken_s, St_inside_s, St_paidForItself_s, St_paidForOthers_s, St_gotOfPot_s, St_shares_s, St_misses_s, St_debt_s, Rd_paid, Rd_missing, Rd_pence, Rd_paid_s, Rd_missing_s, Rd_pence_s, Md_thrown, Md_z, Md_past, Md_pastMany, Md_slots, Md_isSaved, Md_spare, Md_text, Md_typed, Md_hasPaid, Md_misses, Md_potNow, Md_read, Md_spot, Md_wrong, Md_thrown_s, Md_z_s, Md_past_s, Md_pastMany_s, Md_slots_s, Md_isSaved_s, Md_spare_s, Md_text_s, Md_typed_s, Md_hasPaid_s, Md_misses_s, Md_potNow_s, Md_read_s, Md_spot_s, Md_wrong_s, lt, a1, a2, bd_s]
  · have ok0 := ok
    obtain ⟨hc, -, -, -, -, hA, hT, hI, -⟩ := ok
    have h4 : ∀ j, j < c → (pu' j = pu j ∧ gu' j = gu j ∧ bi' j = bi j ∧ aw' j = aw j ∧ ta' j = ta j ∧ ins' j = ins j ∧ pf' j = pf j ∧ po' j = po j ∧ go' j = go j ∧ sh' j = sh j ∧ ms' j = ms j) := fun j hj => by
      obtain ⟨q1, q2, q3, q4, q5, q6, q7, q8, q9, q10, q11⟩ := h2 j (by omega)
      rw [nar_bo (hA j hj)] at q4
      rw [nar_bo (hT j hj)] at q5
      rw [nar_bo (hI j hj)] at q6
      exact ⟨q1, q2, q3, q4, q5, q6, q7, q8, q9, q10, q11⟩
    exact ⟨mo, co, bo, gv, _, _, _, _, _, _, _, _, _, _, _, _, rfl, (E_ext h4 h3).symm, ok0.ext (ms := ms) (pu := pu) h4⟩
