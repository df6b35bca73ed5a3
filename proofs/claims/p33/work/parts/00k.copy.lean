/-! copies of states; what undo takes back -/
section COPY
variable {cc : Int32} {mo co bo gv : Int32} {pu gu bi aw ta ins pf po go sh ms de : Nat → Int32}
variable {pu' gu' bi' aw' ta' ins' pf' po' go' sh' ms' de' : Nat → Int32}
theorem copy_rows {fu : Nat} (hf : 8 < fu) {pu0 gu0 bi0 aw0 ta0 ins0 pf0 po0 go0 sh0 ms0 : Nat → Int32} : One (lp (b_X3_copyFrom_42 (cc, mo, co, bo, gv, pu, gu, bi, aw, ta, ins, pf, po, go, sh, ms, de)) fu ((0:Int32), (cc, mo, co, bo, gv, pu0, gu0, bi0, aw0, ta0, ins0, pf0, po0, go0, sh0, ms0, de'))) (fun e => ∃ pu' gu' bi' aw' ta' ins' pf' po' go' sh' ms', e = (nI 8, (cc, mo, co, bo, gv, pu', gu', bi', aw', ta', ins', pf', po', go', sh', ms', de')) ∧ (∀ j, j < 8 → (pu' j = pu j ∧ gu' j = gu j ∧ bi' j = bi j ∧ aw' j = vp_nar .boolean (aw j) ∧ ta' j = vp_nar .boolean (ta j) ∧ ins' j = vp_nar .boolean (ins j) ∧ pf' j = pf j ∧ po' j = po j ∧ go' j = go j ∧ sh' j = sh j ∧ ms' j = ms j)) ∧ ∀ j, 8 ≤ j → (pu' j = pu0 j ∧ gu' j = gu0 j ∧ bi' j = bi0 j ∧ aw' j = aw0 j ∧ ta' j = ta0 j ∧ ins' j = ins0 j ∧ pf' j = pf0 j ∧ po' j = po0 j ∧ go' j = go0 j ∧ sh' j = sh0 j ∧ ms' j = ms0 j)) := by
  refine lp_one (fun n s => ∃ i pu' gu' bi' aw' ta' ins' pf' po' go' sh' ms', s = (nI i, (cc, mo, co, bo, gv, pu', gu', bi', aw', ta', ins', pf', po', go', sh', ms', de')) ∧ i ≤ 8 ∧ n = 8 - i ∧ (∀ j, j < i → (pu' j = pu j ∧ gu' j = gu j ∧ bi' j = bi j ∧ aw' j = vp_nar .boolean (aw j) ∧ ta' j = vp_nar .boolean (ta j) ∧ ins' j = vp_nar .boolean (ins j) ∧ pf' j = pf j ∧ po' j = po j ∧ go' j = go j ∧ sh' j = sh j ∧ ms' j = ms j)) ∧ ∀ j, 8 ≤ j → (pu' j = pu0 j ∧ gu' j = gu0 j ∧ bi' j = bi0 j ∧ aw' j = aw0 j ∧ ta' j = ta0 j ∧ ins' j = ins0 j ∧ pf' j = pf0 j ∧ po' j = po0 j ∧ go' j = go0 j ∧ sh' j = sh0 j ∧ ms' j = ms0 j)) _ ?_ (n := 8) ⟨0, pu0, gu0, bi0, aw0, ta0, ins0, pf0, po0, go0, sh0, ms0, rfl, by omega, by omega, fun j h => by omega, fun j _ => ⟨rfl, rfl, rfl, rfl, rfl, rfl, rfl, rfl, rfl, rfl, rfl⟩⟩ hf
  rintro n s ⟨i, pu', gu', bi', aw', ta', ins', pf', po', go', sh', ms', rfl, h1, rfl, h2, h3⟩ J hJ
  by_cases h : i = 8
  · subst h
    simp (disch := omega) only [b_X3_copyFrom_42, St_count, St_month, St_contribution, St_box, St_given, St_purse, St_guarantor, St_bid, St_away, St_taken, St_inside, St_paidForItself, St_paidForOthers, St_gotOfPot, St_shares, St_misses, St_debt, St_count_s, St_month_s, St_contribution_s, St_box_s, St_given_s, St_purse_s, St_guarantor_s, St_bid_s, St_away_s, St_taken_s, St_inside_s, St_paidForItself_s, St_paidForOthers_s, St_gotOfPot_s, St_shares_s, St_misses_s, St_debt_s, Rd_paid, Rd_missing, Rd_pence, Rd_paid_s, Rd_missing_s, Rd_pence_s, mul8, lt_e, bd_s, gi_ok, gz2, q_add, nI_s1, nI_clamp, upd_same, nar0, nar1, c0, nf_at, nf_un, le8, Nat.le_refl, ↓reduceIte]
    exact ⟨pu', gu', bi', aw', ta', ins', pf', po', go', sh', ms', rfl, h2, h3⟩
  · have n8 : ¬ 8 ≤ i := by omega
    simp (disch := omega) only [b_X3_copyFrom_42, St_count, St_month, St_contribution, St_box, St_given, St_purse, St_guarantor, St_bid, St_away, St_taken, St_inside, St_paidForItself, St_paidForOthers, St_gotOfPot, St_shares, St_misses, St_debt, St_count_s, St_month_s, St_contribution_s, St_box_s, St_given_s, St_purse_s, St_guarantor_s, St_bid_s, St_away_s, St_taken_s, St_inside_s, St_paidForItself_s, St_paidForOthers_s, St_gotOfPot_s, St_shares_s, St_misses_s, St_debt_s, Rd_paid, Rd_missing, Rd_pence, Rd_paid_s, Rd_missing_s, Rd_pence_s, mul8, lt_e, bd_s, gi_ok, gz2, q_add, nI_s1, nI_clamp, upd_same, nar0, nar1, c0, nf_at, nf_un, le8, n8, ↓reduceIte]
    refine hJ _ _ (by omega) ⟨i + 1, _, _, _, _, _, _, _, _, _, _, _, rfl, by omega, rfl, fun j hj => ?_, fun j hj => by simp only [upd_ne (show j ≠ i by omega)]; exact h3 j hj⟩
    by_cases e : j = i
    · subst e
      simp only [upd_same, and_self]
    · simp only [upd_ne e]
      exact h2 j (by omega)
theorem copy_debt {fu : Nat} (hf : 64 < fu) {de0 : Nat → Int32} : One (lp (b_X3_copyFrom_188 (cc, mo, co, bo, gv, pu, gu, bi, aw, ta, ins, pf, po, go, sh, ms, de)) fu ((0:Int32), (cc, mo, co, bo, gv, pu', gu', bi', aw', ta', ins', pf', po', go', sh', ms', de0))) (fun e => ∃ de', e = (nI 64, (cc, mo, co, bo, gv, pu', gu', bi', aw', ta', ins', pf', po', go', sh', ms', de')) ∧ (∀ k, k < 64 → de' k = de k) ∧ ∀ k, 64 ≤ k → de' k = de0 k) := by
  refine lp_one (fun n s => ∃ i de', s = (nI i, (cc, mo, co, bo, gv, pu', gu', bi', aw', ta', ins', pf', po', go', sh', ms', de')) ∧ i ≤ 64 ∧ n = 64 - i ∧ (∀ k, k < i → de' k = de k) ∧ ∀ k, 64 ≤ k → de' k = de0 k) _ ?_ (n := 64) ⟨0, de0, rfl, by omega, by omega, fun j h => by omega, fun j _ => rfl⟩ hf
  rintro n s ⟨i, de', rfl, h1, rfl, h2, h3⟩ J hJ
  by_cases h : i = 64
  · subst h
    simp (disch := omega) only [b_X3_copyFrom_188, St_count, St_month, St_contribution, St_box, St_given, St_purse, St_guarantor, St_bid, St_away, St_taken, St_inside, St_paidForItself, St_paidForOthers, St_gotOfPot, St_shares, St_misses, St_debt, St_count_s, St_month_s, St_contribution_s, St_box_s, St_given_s, St_purse_s, St_guarantor_s, St_bid_s, St_away_s, St_taken_s, St_inside_s, St_paidForItself_s, St_paidForOthers_s, St_gotOfPot_s, St_shares_s, St_misses_s, St_debt_s, Rd_paid, Rd_missing, Rd_pence, Rd_paid_s, Rd_missing_s, Rd_pence_s, mul8, lt_e, bd_s, gi_ok, gz2, q_add, nI_s1, nI_clamp, upd_same, nar0, nar1, c0, nf_at, nf_un, le64, Nat.le_refl, ↓reduceIte]
    exact ⟨de', rfl, h2, h3⟩
  · have n8 : ¬ 64 ≤ i := by omega
    simp (disch := omega) only [b_X3_copyFrom_188, St_count, St_month, St_contribution, St_box, St_given, St_purse, St_guarantor, St_bid, St_away, St_taken, St_inside, St_paidForItself, St_paidForOthers, St_gotOfPot, St_shares, St_misses, St_debt, St_count_s, St_month_s, St_contribution_s, St_box_s, St_given_s, St_purse_s, St_guarantor_s, St_bid_s, St_away_s, St_taken_s, St_inside_s, St_paidForItself_s, St_paidForOthers_s, St_gotOfPot_s, St_shares_s, St_misses_s, St_debt_s, Rd_paid, Rd_missing, Rd_pence, Rd_paid_s, Rd_missing_s, Rd_pence_s, mul8, lt_e, bd_s, gi_ok, gz2, q_add, nI_s1, nI_clamp, upd_same, nar0, nar1, c0, nf_at, nf_un, le64, n8, ↓reduceIte]
    refine hJ _ _ (by omega) ⟨i + 1, _, rfl, by omega, rfl, fun j hj => ?_, fun j hj => by rw [upd_ne (by omega)]; exact h3 j hj⟩
    by_cases e : j = i
    · subst e; rw [upd_same]
    · rw [upd_ne e]; exact h2 j (by omega)
theorem nar_bo {x : Int32} (h : x = 0 ∨ x = 1) : vp_nar .boolean x = x := by
  rcases h with rfl | rfl
  · rfl
  · rfl
end COPY
/-- nothing in the rows behind their ends -/
def Z8 (v : StV) : Prop := (Zi 8 (St_purse v) ∧ Zi 8 (St_guarantor v) ∧ Zi 8 (St_bid v) ∧ Zi 8 (St_away v) ∧ Zi 8 (St_taken v) ∧ Zi 8 (St_inside v) ∧ Zi 8 (St_paidForItself v) ∧ Zi 8 (St_paidForOthers v) ∧ Zi 8 (St_gotOfPot v) ∧ Zi 8 (St_shares v) ∧ Zi 8 (St_misses v) ∧ Zi 64 (St_debt v)) ∧ Bo (St_away v) ∧ Bo (St_taken v) ∧ Bo (St_inside v)
theorem row_eq {n : Nat} {f f' f0 : Nat → Int32} (h : ∀ j, j < n → f' j = f j) (h1 : ∀ j, n ≤ j → f' j = f0 j) (z : Zi n f) (z0 : Zi n f0) : f' = f := funext fun j => by
  by_cases hj : j < n
  · exact h j hj
  · rw [h1 j (by omega), z j (by omega), z0 j (by omega)]
theorem copy_is {v t : StV} (hv : Z8 v) (ht : Z8 t) : f_X3_copyFrom t v = some ((), v) := by
  obtain ⟨c, mo, co, bo, gv, pu, gu, bi, aw, ta, ins, pf, po, go, sh, ms, de⟩ := v
  obtain ⟨c0, mo0, co0, bo0, gv0, pu0, gu0, bi0, aw0, ta0, ins0, pf0, po0, go0, sh0, ms0, de0⟩ := t
  obtain ⟨⟨a1, a2, a3, a4, a5, a6, a7, a8, a9, a10, a11, a12⟩, ba, bt, bn⟩ := hv
  obtain ⟨⟨b1, b2, b3, b4, b5, b6, b7, b8, b9, b10, b11, b12⟩, -⟩ := ht
  obtain ⟨e, e1, pu', gu', bi', aw', ta', ins', pf', po', go', sh', ms', rfl, h2, h3⟩ := lp_get (n := 8) (by omega) (fun fu hf => copy_rows (fu := fu) hf (cc := c) (mo := mo) (co := co) (bo := bo) (gv := gv) (pu := pu) (gu := gu) (bi := bi) (aw := aw) (ta := ta) (ins := ins) (pf := pf) (po := po) (go := go) (sh := sh) (ms := ms) (de := de) (de' := de0) (pu0 := pu0) (gu0 := gu0) (bi0 := bi0) (aw0 := aw0) (ta0 := ta0) (ins0 := ins0) (pf0 := pf0) (po0 := po0) (go0 := go0) (sh0 := sh0) (ms0 := ms0))
  obtain ⟨e, e2, de', rfl, h4, h5⟩ := lp_get (n := 64) (by omega) (fun fu hf => copy_debt (fu := fu) hf (cc := c) (mo := mo) (co := co) (bo := bo) (gv := gv) (pu := pu) (gu := gu) (bi := bi) (aw := aw) (ta := ta) (ins := ins) (pf := pf) (po := po) (go := go) (sh := sh) (ms := ms) (de := de) (de0 := de0) (pu' := pu') (gu' := gu') (bi' := bi') (aw' := aw') (ta' := ta') (ins' := ins') (pf' := pf') (po' := po') (go' := go') (sh' := sh') (ms' := ms'))
  have q0 : pu' = pu := row_eq (fun j hj => (h2 j hj).1) (fun j hj => (h3 j hj).1) a1 b1
  have q1 : gu' = gu := row_eq (fun j hj => (h2 j hj).2.1) (fun j hj => (h3 j hj).2.1) a2 b2
  have q2 : bi' = bi := row_eq (fun j hj => (h2 j hj).2.2.1) (fun j hj => (h3 j hj).2.2.1) a3 b3
  have q3 : aw' = aw := row_eq (fun j hj => ((h2 j hj).2.2.2.1).trans (nar_bo (ba j))) (fun j hj => (h3 j hj).2.2.2.1) a4 b4
  have q4 : ta' = ta := row_eq (fun j hj => ((h2 j hj).2.2.2.2.1).trans (nar_bo (bt j))) (fun j hj => (h3 j hj).2.2.2.2.1) a5 b5
  have q5 : ins' = ins := row_eq (fun j hj => ((h2 j hj).2.2.2.2.2.1).trans (nar_bo (bn j))) (fun j hj => (h3 j hj).2.2.2.2.2.1) a6 b6
  have q6 : pf' = pf := row_eq (fun j hj => (h2 j hj).2.2.2.2.2.2.1) (fun j hj => (h3 j hj).2.2.2.2.2.2.1) a7 b7
  have q7 : po' = po := row_eq (fun j hj => (h2 j hj).2.2.2.2.2.2.2.1) (fun j hj => (h3 j hj).2.2.2.2.2.2.2.1) a8 b8
  have q8 : go' = go := row_eq (fun j hj => (h2 j hj).2.2.2.2.2.2.2.2.1) (fun j hj => (h3 j hj).2.2.2.2.2.2.2.2.1) a9 b9
  have q9 : sh' = sh := row_eq (fun j hj => (h2 j hj).2.2.2.2.2.2.2.2.2.1) (fun j hj => (h3 j hj).2.2.2.2.2.2.2.2.2.1) a10 b10
  have q10 : ms' = ms := row_eq (fun j hj => (h2 j hj).2.2.2.2.2.2.2.2.2.2) (fun j hj => (h3 j hj).2.2.2.2.2.2.2.2.2.2) a11 b11
  have q11 : de' = de := row_eq h4 h5 a12 b12
  subst q0; subst q1; subst q2; subst q3; subst q4; subst q5; subst q6; subst q7; subst q8; subst q9; subst q10; subst q11
  simp only [f_X3_copyFrom, St_count, St_month, St_contribution, St_box, St_given, St_purse, St_guarantor, St_bid, St_away, St_taken, St_inside, St_paidForItself, St_paidForOthers, St_gotOfPot, St_shares, St_misses, St_debt, St_count_s, St_month_s, St_contribution_s, St_box_s, St_given_s, St_purse_s, St_guarantor_s, St_bid_s, St_away_s, St_taken_s, St_inside_s, St_paidForItself_s, St_paidForOthers_s, St_gotOfPot_s, St_shares_s, St_misses_s, St_debt_s, Rd_paid, Rd_missing, Rd_pence, Rd_paid_s, Rd_missing_s, Rd_pence_s, lt_e, e1, e2, bd_s]
theorem Ok.z {c m q g : Nat} {v : StV} (h : Ok c m q g v) : Z8 v := by
  obtain ⟨B, P, gu, b, aw, ta, ins, F, O, G, H, S, D, rfl, h⟩ := h
  obtain ⟨⟨g1, g2, g3, g4, g5⟩, g6, hg, ha, ht, hi, hb, hF, hD, hDb, zP, zgu, zb, za, zt, zi, zF, zO, zG, zH, zS⟩ := h
  have n8 : ∀ {f : Nat → Nat}, Zn c f → Zi 8 (nf f) := fun {f} h j hj => by rw [nf_at, h j (by omega)]; rfl
  refine ⟨⟨n8 zP, zgu.up (by omega), n8 zb, za.up (by omega), zt.up (by omega), zi.up (by omega), n8 zF, n8 zO, n8 zG, n8 zH, n8 zS, fun k hk => ?_⟩, ha, ht, hi⟩
  show nf D k = 0
  have : D k = 0 := by
    by_cases e : D k = 0
    · exact e
    · obtain ⟨i, j, h1, h2, -, rfl⟩ := hDb k e
      omega
  rw [nf_at, this]
  rfl
/-- the past: its last ones, the latest first -/
def Top (p : PaV) (l : List StV) : Prop := ∃ s x, p.1 = nI s ∧ p.2.1 = nI x ∧ s ≤ 14 ∧ x < 14 ∧ l.length ≤ s ∧ (∀ k, Z8 (p.2.2 k)) ∧ ∀ i v, l[i]? = some v → p.2.2 ((x + 13 - i) % 14) = v
theorem Top.nil {p : PaV} {l : List StV} (h : Top p l) : Top p [] := by
  obtain ⟨s, x, h1, h2, h3, h4, h5, h6, h7⟩ := h
  exact ⟨s, x, h1, h2, h3, h4, by simp, h6, fun i v e => by simp at e⟩
theorem Top.remember {p : PaV} {l : List StV} {v : StV} (h : Top p l) (hl : l.length ≤ 13) (hv : Z8 v) : ∃ p', f_X0_remember p v = some ((), p') ∧ Top p' (v :: l) := by
  obtain ⟨s, x, h1, h2, h3, h4, h5, h6, h7⟩ := h
  obtain ⟨sz, nx, f⟩ := p
  have h1 : sz = nI s := h1
  have h2 : nx = nI x := h2
  subst h1; subst h2
  have e := copy_is hv (h6 x)
  have e : f_X3_copyFrom (f x) v = some ((), v) := e
  have key : Top (nI (if s = 14 then 14 else s + 1), nI ((x + 1) % 14), upS f x v) (v :: l) := by
    refine ⟨_, _, rfl, rfl, by split <;> omega, Nat.mod_lt _ (by omega), by simp only [List.length_cons]; split <;> omega, fun k => ?_, fun i w hw => ?_⟩
    · show Z8 (upS f x v k)
      unfold upS
      split
      · exact hv
      · exact h6 k
    · show upS f x v (((x + 1) % 14 + 13 - i) % 14) = w
      cases i with
      | zero =>
        have e1 : ((x + 1) % 14 + 13 - 0) % 14 = x := by omega
        rw [e1]
        unfold upS
        rw [if_pos rfl]
        exact Option.some.inj hw
      | succ i =>
        have hi : i < l.length := by
          have : l[i]? = some w := hw
          exact (List.getElem?_eq_some_iff.mp this).1
        have e1 : ((x + 1) % 14 + 13 - (i + 1)) % 14 = (x + 13 - i) % 14 := by omega
        have e2 : ¬ (x + 13 - i) % 14 = x := by omega
        rw [e1]
        unfold upS
        rw [if_neg e2]
        exact h7 i w hw
  refine ⟨_, ?_, key⟩
  have e14 : (14:Int32) = nI 14 := rfl
  by_cases w1 : x = 13
  · subst w1
    by_cases w2 : s = 14
    · subst w2
      simp (decide := true) (disch := omega) only [f_X0_remember, Pa_next, Pa_states, Pa_states_s, Pa_next_s, Pa_size, Pa_size_s, mul8, lt_e, bd_s, gi_ok, gz2, q_add, nI_s1, nI_clamp, upd_same, nar0, nar1, c0, nf_at, nf_un, e, le14, e14, nI_lti, nI_lei, ↓reduceIte]
      rfl
    · have w3 : ¬ 14 < s + 1 := by omega
      simp (decide := true) (disch := omega) only [f_X0_remember, Pa_next, Pa_states, Pa_states_s, Pa_next_s, Pa_size, Pa_size_s, mul8, lt_e, bd_s, gi_ok, gz2, q_add, nI_s1, nI_clamp, upd_same, nar0, nar1, c0, nf_at, nf_un, e, le14, e14, nI_lti, nI_lei, w2, w3, ↓reduceIte]
      rfl
  · have w4 : ¬ 14 ≤ x + 1 := by omega
    have w5 : (x + 1) % 14 = x + 1 := Nat.mod_eq_of_lt (by omega)
    by_cases w2 : s = 14
    · rw [w5]
      have w6 : 14 < s + 1 := by omega
      simp (decide := true) (disch := omega) only [f_X0_remember, Pa_next, Pa_states, Pa_states_s, Pa_next_s, Pa_size, Pa_size_s, mul8, lt_e, bd_s, gi_ok, gz2, q_add, nI_s1, nI_clamp, upd_same, nar0, nar1, c0, nf_at, nf_un, e, le14, e14, nI_lti, nI_lei, w2, w4, w6, ↓reduceIte]
    · rw [w5]
      have w3 : ¬ 14 < s + 1 := by omega
      simp (decide := true) (disch := omega) only [f_X0_remember, Pa_next, Pa_states, Pa_states_s, Pa_next_s, Pa_size, Pa_size_s, mul8, lt_e, bd_s, gi_ok, gz2, q_add, nI_s1, nI_clamp, upd_same, nar0, nar1, c0, nf_at, nf_un, e, le14, e14, nI_lti, nI_lei, w2, w3, w4, ↓reduceIte]
theorem Top.undo {p : PaV} {l : List StV} {v w : StV} (h : Top p (v :: l)) (hw : Z8 w) : ∃ s p', s ≤ 14 ∧ f_X5_undo w p = some (nI s, (v, p')) ∧ Top p' l := by
  obtain ⟨s, x, h1, h2, h3, h4, h5, h6, h7⟩ := h
  obtain ⟨sz, nx, f⟩ := p
  have h1 : sz = nI s := h1
  have h2 : nx = nI x := h2
  subst h1; subst h2
  simp only [List.length_cons] at h5
  obtain ⟨y, hy⟩ : ∃ y, (x + 13) % 14 = y := ⟨_, rfl⟩
  have hv : f ((x + 13 - 0) % 14) = v := h7 0 v rfl
  rw [Nat.sub_zero, hy] at hv
  have e := copy_is (h6 y) hw
  have e : f_X3_copyFrom w (f y) = some ((), f y) := e
  rw [hv] at e
  have s0 : (0:Int32) < nI s := (nI_lti (a := 0) (by omega) (by omega)).mpr (by omega)
  have s1 : nI s - (1:Int32) = nI (s - 1) := nI_sub (b := 1) (by omega)
  have key : f_X5_undo w (nI s, nI x, f) = some (nI (s - 1), (v, (nI (s - 1), nI y, f))) := by
    by_cases q : x = 0
    · have y13 : y = 13 := by omega
      rw [y13] at hv ⊢
      rw [q]
      have g13 : ∀ {β : Type} {k : Option β}, gi (13:Int32) 14 k = k := fun {β k} => if_neg (by decide)
      have c13 : (13:Int32).toNatClampNeg = 13 := by decide
      have z13 : nI 13 = (13:Int32) := by decide
      rw [z13]
      simp (disch := omega) only [f_X5_undo, f_X0_takeBack, Pa_next, Pa_states, Pa_next_s, Pa_size, Pa_size_s, s0, ge0, Nat.le_refl, lt_e, s1, g13, c13, hv, e, bd_s, ↓reduceIte]
    · have x0 : ¬ x ≤ 0 := by omega
      have x2 : x - 1 = y := by omega
      have x1 : nI x - (1:Int32) = nI y := by rw [← x2]; exact nI_sub (b := 1) (by omega)
      simp (disch := omega) only [f_X5_undo, f_X0_takeBack, Pa_next, Pa_states, Pa_next_s, Pa_size, Pa_size_s, s0, ge0, x0, lt_e, s1, x1, gi_ok, nI_clamp, hv, e, bd_s, ↓reduceIte]
  refine ⟨s - 1, (nI (s - 1), nI y, f), by omega, key, s - 1, y, rfl, rfl, by omega, by omega, by omega, h6, fun i w' hw' => ?_⟩
  have hi : i < l.length := (List.getElem?_eq_some_iff.mp hw').1
  have e1 : (y + 13 - i) % 14 = (x + 13 - (i + 1)) % 14 := by omega
  show f ((y + 13 - i) % 14) = w'
  rw [e1]
  exact h7 (i + 1) w' hw'
