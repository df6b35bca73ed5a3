/-! a month of the law, and what was told of it -/
theorem pot_ok {c m q g : Nat} {v : StV} {w : Int32} {k : Nat} {v' : StV} (h : Ok c m q g v) (s : Step c m q g v w k v') {t : StV} (zt : Z8 t) {r : RdV} (hr : Rz c r) : ∃ v1 r', f_X5_pot v t r = some (nI (q * k), (v1, r')) ∧ Z8 v1 ∧ Rz c r' := by
  have z := h.z
  obtain ⟨r1, -, p1, -, v2, e2⟩ := s.2.2.2.2.2.2.2.2.2 r hr
  obtain ⟨B, P, gu, b, aw, ta, ins, F, O, G, H, S, D, rfl, ok⟩ := h
  obtain ⟨pd', mg', k', P1, F1, O1, S1, D1, hk, hmg, zp, zm, hz8, hpay⟩ := pay_all ok
  have e3 := hpay r hr b
  have e := Option.some.inj (e2.symm.trans e3)
  simp only [Prod.mk.injEq, true_and] at e
  have p1 : nI (q * k') = nI (q * k) := by rw [← p1, e.1]
  refine ⟨(nI c, nI m, nI q, nI B, nI g, nf P1, gu, nf b, aw, ta, ins, nf F1, nf O1, nf G, nf H, nf S1, nf D1), (pd', mg', nI (q * k')), ?_, hz8 _ ok.2.2.2.2.2.2.2.2.2.2.2.2.1, zp, zm⟩
  simp only [f_X5_pot, copy_is z zt, bd_s, e3, St_count, St_month, St_contribution, St_box, St_given, St_purse, St_guarantor, St_bid, St_away, St_taken, St_inside, St_paidForItself, St_paidForOthers, St_gotOfPot, St_shares, St_misses, St_debt, St_count_s, St_month_s, St_contribution_s, St_box_s, St_given_s, St_purse_s, St_guarantor_s, St_bid_s, St_away_s, St_taken_s, St_inside_s, St_paidForItself_s, St_paidForOthers_s, St_gotOfPot_s, St_shares_s, St_misses_s, St_debt_s, Rd_paid, Rd_missing, Rd_pence, Rd_paid_s, Rd_missing_s, Rd_pence_s, p1]
theorem change_ok {c m q g i : Nat} {v : StV} {w : Int32} {k : Nat} {v' : StV} (h : Ok c m q g v) (s : Step c m q g v w k v') (hic : i < c) {t : StV} (zt : Z8 t) {r : RdV} (hr : Rz c r) : ∃ r', f_X5_change v t r (nI i) = some (St_purse v' i - St_purse v i, (v', r')) ∧ Rz c r' := by
  obtain ⟨r', h1, -, h2, -⟩ := s.2.2.2.2.2.2.2.2.2 r hr
  have c8 : c ≤ 7 := h.cnt.2.2.2.2.2.2.2.1
  refine ⟨r', ?_, h1⟩
  simp (disch := omega) only [f_X5_change, req (n := c) h.cnt.1 hic (by omega), copy_is h.z zt, bd_s, h2, gi_ok, nI_clamp, lt_e]
theorem month_ok {c m q g : Nat} {v : StV} {w : Int32} {k : Nat} {v' : StV} {p : PaV} {l : List StV} (h : Ok c m q g v) (s : Step c m q g v w k v') (hm : May c m v) {r : RdV} (hr : Rz c r) (tp : Top p l) (hl : l.length ≤ 13) : ∃ r' p', f_X5_month v r p = some (w, (v', r', p')) ∧ Rz c r' ∧ Top p' (v :: l) := by
  obtain ⟨r', h1, -, h2, -⟩ := s.2.2.2.2.2.2.2.2.2 r hr
  obtain ⟨p', e, t⟩ := tp.remember hl h.z
  rcases may_ok h with ⟨-, e1⟩ | ⟨n, -⟩
  · exact ⟨r', p', by simp only [f_X5_month, e1, bd_s, o_ne, e, h2, ↓reduceIte], h1, t⟩
  · exact absurd hm n
theorem back_add (x y : Int32) : x + (y - x) = y := by rw [Int32.add_comm, Int32.sub_add_cancel]
theorem add_back (x y : Int32) : x + y - x = y := by rw [Int32.add_comm, Int32.add_sub_cancel]
theorem p8 (i : Nat) : (8:Int32) + nI i = nI (8 + i) := q_add 8 i
theorem none_le {m : Nat} (hm : m ≤ 1000) : (-99999:Int32) ≤ nI m := Int32.le_of_lt (Int32.lt_of_lt_of_le (by decide : (-99999:Int32) < 0) ((nI_lei (a := 0) (by omega) (by omega)).mpr (by omega)))
theorem lawMonth {c m q g : Nat} {v : StV} (ok : Ok c m q g v) (h1 : 1 ≤ c) (hm : m ≤ 98) {t : StV} (zt : Z8 t) {r : RdV} (hr : Rz c r) {p : PaV} {l : List StV} (tp : Top p l) (hl : l.length ≤ 13) (ar : ArV) : ∃ v' t' r' p' ar' m', f_L_month v t r p ar (nI c) = some ((1:Int32), (v', t', r', p', ar')) ∧ Z8 t' ∧ Rz c r' ∧ Top p' [] ∧ Ok c m' q g v' ∧ m' ≤ m + 1 ∧ PB c v' := by
  obtain ⟨w, k, v', st⟩ := month_step ok h1 hm
  obtain ⟨hc, hmo, hco, hgv, ba, bt, bi, c8, m9, q1, q20⟩ := ok.cnt
  obtain ⟨ok', k14, s1, ⟨d, d7, s2⟩, s3, s4, s5, s6, s7, -⟩ := id st
  obtain ⟨hc', hmo', hco', hgv', ba', bt', bi', -, -, -, -⟩ := ok'.cnt
  have tq : q * k ≤ 20 * 14 := Nat.mul_le_mul q20 k14
  obtain ⟨r1, a1, zr1, zv'⟩ := winner_ok ok st zt hr
  obtain ⟨v1, r2, a2, z1, zr2⟩ := pot_ok ok st zv' zr1
  have a3 : f_X5_about v (4:Int32) = some (St_box v, ()) := ab_4
  have b10 : f_L_sum v (nI c) (10:Int32) = some (sI c (St_misses v), ()) := sum_row (by omega) (fun i hi => mem_10 hc hi (by omega))
  have b6 : f_L_sum v (nI c) (6:Int32) = some (sI c (St_paidForItself v), ()) := sum_row (by omega) (fun i hi => mem_6 hc hi (by omega))
  have b7 : f_L_sum v (nI c) (7:Int32) = some (sI c (St_paidForOthers v), ()) := sum_row (by omega) (fun i hi => mem_7 hc hi (by omega))
  have told : ∀ (p3 p4 p5 p6 p7 : Int32), One (lp (b_L_month_47 v p (nI c) p3 p4 p5 p6 p7) FU ((0:Int32), v1, r2, ar)) (fun e => ∃ t3 r3 ar3, e = (nI c, t3, r3, ar3) ∧ Z8 t3 ∧ Rz c r3 ∧ ∀ j, j < c → (Ar_row ar3 j = St_purse v' j ∧ Whe c q g j 20 m v (Ar_row ar3 (8 + j)))) := by
    intro p3 p4 p5 p6 p7
    refine lp_one (fun n s => ∃ i t3 r3 ar3, s = (nI i, t3, r3, ar3) ∧ i ≤ c ∧ n = c - i ∧ Z8 t3 ∧ Rz c r3 ∧ ∀ j, j < i → (Ar_row ar3 j = St_purse v' j ∧ Whe c q g j 20 m v (Ar_row ar3 (8 + j)))) _ ?_ (n := c) ⟨0, v1, r2, ar, rfl, by omega, by omega, z1, zr2, fun j hj => by omega⟩ (FU_gt (by omega))
    rintro n s ⟨i, t3, r3, ar3, rfl, h2, rfl, h3, h4, h5⟩ J hJ
    by_cases e : i = c
    · subst e
      simp (disch := omega) only [b_L_month_47, nI_lei, Nat.le_refl, ↓reduceIte]
      exact ⟨t3, r3, ar3, rfl, h3, h4, h5⟩
    · have ni : ¬ c ≤ i := by omega
      have hi : i < c := by omega
      have e0 := mem_0 hc hi (by omega)
      obtain ⟨r4, e1, z4⟩ := change_ok ok st hi h3 h4
      obtain ⟨x, t5, r5, e2, wh, z5, zr5⟩ := when_ok (i := i) ok h1 hi zv' z4
      simp (disch := omega) only [b_L_month_47, nI_lei, ni, e0, e1, e2, bd_s, p8, gi_ok, nI_clamp, lt_e, nI_s1, back_add, Ar_row, Ar_row_s, ↓reduceIte]
      refine hJ _ _ (by omega) ⟨i + 1, t5, r5, _, rfl, by omega, rfl, z5, zr5, fun j hj => ?_⟩
      show (upd (upd ar3 i (St_purse v' i)) (8 + i) x j = _) ∧ Whe c q g j 20 m v (upd (upd ar3 i (St_purse v' i)) (8 + i) x (8 + j))
      by_cases q9 : j = i
      · subst q9
        rw [upd_ne (by omega), upd_same, upd_same]
        exact ⟨rfl, wh⟩
      · rw [upd_ne (by omega), upd_ne q9, upd_ne (by omega), upd_ne (by omega)]
        exact h5 j (by omega)
  obtain ⟨e, e1, t3, r3, ar3, rfl, z3, zr3, hh⟩ := on_get (told w (nI (q * k)) (St_box v) (sI c (St_misses v)) (sI c (St_paidForItself v) + sI c (St_paidForOthers v)))
  have a4 : f_X5_about v (2:Int32) = some (nI m, ()) := by rw [← hmo]; exact ab_2
  obtain ⟨ki, k1, k2, k3, k4⟩ := sI_bo bi c
  have a5 : f_X5_about v (1:Int32) = some (nI ki, ()) := by rw [← k2]; exact ab_1 hc (by omega) bi
  by_cases q0 : ki = 0
  · -- nobody is inside
    have no : ¬ ∃ j, j < c ∧ St_inside v j = 1 := fun ⟨j, hj, z⟩ => by rw [k3 q0 j hj] at z; exact absurd z (by decide)
    rcases s6 with z | ⟨z1, z2⟩
    · exact absurd z no
    · have z00 : nI (q * k) = (0:Int32) := by rw [z1]; rfl
      have z01 : nI ki = (0:Int32) := by rw [q0]; rfl
      refine ⟨v, t3, r3, p, ar3, m, ?_, z3, zr3, tp.nil, ok, by omega, fun j hj z _ => absurd ⟨j, hj, z⟩ no⟩
      rw [f_L_month, bd_r a1, bd_r a2, bd_r a3, bd_r b10, bd_r b6, bd_r b7, lt_e, bd_r e1, bd_r a4, bd_r a5, if_pos z01, if_pos z2, if_pos z00]
  · have may : May c m v := ⟨hm, Classical.byContradiction fun z => q0 (k4 fun j hj => by
      rcases bi j with e | e
      · exact e
      · exact absurd ⟨j, hj, e⟩ z)⟩
    have n01 : ¬ nI ki = (0:Int32) := fun z => q0 ((eq0 (by omega)).mp z)
    obtain ⟨r6, p6, e6, zr6, tp6⟩ := month_ok ok st may zr3 tp hl
    have a6 : f_X5_about v' (2:Int32) = some (nI (m + 1), ()) := by rw [← hmo']; exact ab_2
    have b6' : f_L_sum v' (nI c) (6:Int32) = some (sI c (St_paidForItself v'), ()) := sum_row (by omega) (fun i hi => mem_6 hc' hi (by omega))
    have b7' : f_L_sum v' (nI c) (7:Int32) = some (sI c (St_paidForOthers v'), ()) := sum_row (by omega) (fun i hi => mem_7 hc' hi (by omega))
    have b10' : f_L_sum v' (nI c) (10:Int32) = some (sI c (St_misses v'), ()) := sum_row (by omega) (fun i hi => mem_10 hc' hi (by omega))
    have sz : sI c (fun _ => (0:Int32)) = 0 := by
      have := sI_nf c (fun _ => 0)
      rw [su_zero] at this
      exact this
    have b2' : f_L_sum v' (nI c) (2:Int32) = some ((0:Int32), ()) := by rw [← sz, ← s3]; exact sum_row (by omega) (fun i hi => mem_2 hc' hi (by omega))
    have b3' : f_L_sum v' (nI c) (3:Int32) = some ((0:Int32), ()) := by rw [← sz, ← s4]; exact sum_row (by omega) (fun i hi => mem_3 hc' hi (by omega) ba')
    have a7 : f_X5_about v' (3:Int32) = some (nI q, ()) := by rw [← hco']; exact ab_3
    have nq : ¬ nI q = 0 := fun z => by have := (nI_inj (b := 0) (by omega) (by omega)).mp z; omega
    have rem : nI (q * k) - nI (q * k) / nI q * nI q = (0:Int32) := by
      rw [nI_rem (by omega) (by omega), Nat.mul_mod_right]
      rfl
    have pbz : PB c v' := fun j _ _ _ => by rw [s3]
    have again : ∀ (p5 p9 : Int32), One (lp (b_L_month_201 v' p6 ar3 (nI c) (nI (q * k)) p5 p9 (nI m) w) FU ((0:Int32), t3, r6)) (fun e => ∃ t9 r9, e = .inl (nI c, t9, r9) ∧ Z8 t9 ∧ Rz c r9) := by
      intro p5 p9
      refine lp_one (fun n s => ∃ i t9 r9, s = (nI i, t9, r9) ∧ i ≤ c ∧ n = c - i ∧ Z8 t9 ∧ Rz c r9) _ ?_ (n := c) ⟨0, t3, r6, rfl, by omega, by omega, z3, zr6⟩ (FU_gt (by omega))
      rintro n s ⟨i, t9, r9, rfl, h2, rfl, h3, h4⟩ J hJ
      by_cases e : i = c
      · subst e
        simp (disch := omega) only [b_L_month_201, nI_lei, Nat.le_refl, ↓reduceIte]
        exact ⟨t9, r9, rfl, h3, h4⟩
      · have ni : ¬ c ≤ i := by omega
        have hi : i < c := by omega
        have e0 := mem_0 hc' hi (by omega)
        obtain ⟨f1, f2⟩ := hh i hi
        have next : J (nI (i + 1), t9, r9) := hJ _ _ (by omega) ⟨i + 1, t9, r9, rfl, by omega, rfl, h3, h4⟩
        rcases f2 with ⟨z, -⟩ | ⟨-, w2, k2, v2, st2, f2⟩
        · exact absurd may z
        · obtain ⟨rfl, rfl, -⟩ := st.det st2
          rcases f2 with ⟨q5, q6⟩ | ⟨q5, f2⟩
          · have le : nI m ≤ nI m := Int32.le_refl _
            simp (disch := omega) only [b_L_month_201, nI_lei, ni, e0, bd_s, p8, gi_ok, nI_clamp, f1, q6, q5, le, lt_e, nI_s1, ↓reduceIte]
            first | exact next | (simp only [le, ↓reduceIte]; exact next)
          · have q5' : ¬ nI i = w2 := fun z => q5 z.symm
            have fis := Whe.is _ _ _ _ f2
            by_cases q7 : Ar_row ar3 (8 + i) = (-99999:Int32)
            · have ne : ¬ (-99999:Int32) = nI m := fun z => (nI_neg (by omega)).mp z.symm
              have le := none_le (m := m) (by omega)
              simp (disch := omega) only [b_L_month_201, nI_lei, ni, e0, bd_s, p8, gi_ok, nI_clamp, f1, q7, ne, q5', le, lt_e, nI_s1, ↓reduceIte]
              exact next
            · rcases fis with z | ⟨y, y1, y2, y3⟩
              · exact absurd z q7
              · have ne : ¬ Ar_row ar3 (8 + i) = nI m := fun z => by
                  have := (nI_inj (by omega) (by omega)).mp (y3.symm.trans z); omega
                have nle : ¬ Ar_row ar3 (8 + i) ≤ nI m := fun z => by
                  rw [y3] at z
                  have := (nI_lei (by omega) (by omega)).mp z; omega
                obtain ⟨x, t5, r5, e2, wh, z5, zr5⟩ := when_ok (i := i) ok' h1 hi h3 h4
                have xe : x = Ar_row ar3 (8 + i) := f2.more 19 _ _ _ 20 _ q7 (by omega) wh
                subst xe
                simp (disch := omega) only [b_L_month_201, nI_lei, ni, e0, bd_s, p8, gi_ok, nI_clamp, f1, ne, q5', nle, e2, lt_e, nI_s1, ↓reduceIte]
                exact hJ _ _ (by omega) ⟨i + 1, t5, r5, rfl, by omega, rfl, z5, zr5⟩
    obtain ⟨e, e8, t9, r9, rfl, z9, zr9⟩ := on_get (again (St_box v) (sI c (St_misses v)))
    have a8 : f_X5_about v' (4:Int32) = some (St_box v', ()) := ab_4
    have m1 : nI m + (1:Int32) = nI (m + 1) := nI_s1 m
    have z0 : (0:Int32) + 0 = 0 := by decide
    rcases s7 with ⟨w0, s7⟩ | ⟨W, x, hW, w0, s8, s9, s10, s11⟩
    · subst w0
      refine ⟨v', t9, r9, p6, ar3, m + 1, ?_, z9, zr9, tp6.nil, ok', by omega, pbz⟩
      rw [f_L_month, bd_r a1, bd_r a2, bd_r a3, bd_r b10, bd_r b6, bd_r b7, lt_e, bd_r e1, bd_r a4, bd_r a5, if_neg n01, bd_r e6, if_pos rfl, bd_r a6, if_pos m1.symm, bd_r b6', bd_r b7', if_pos s1, bd_r a7, gz, if_neg nq, if_pos rem, bd_r b2', bd_r b3', if_pos z0, bd_r e8, el_in, if_pos rfl, bd_r a8, if_pos s7]
    · subst w0
      have nn : ¬ nI W = (-99999:Int32) := fun z => (nI_neg (by omega)).mp z
      have m4 : f_X5_member v' (nI W) (4:Int32) = some ((1:Int32), ()) := by rw [← s8]; exact mem_4 hc' hW (by omega) bt'
      have m8 : f_X5_member v' (nI W) (8:Int32) = some (nI x, ()) := by rw [← s9]; exact mem_8 hc' hW (by omega)
      have n1 : ¬ nI (q * k) < nI x := fun z => by have := (nI_lti (by omega) (by omega)).mp z; omega
      have n2 : ¬ (2:Int32) * nI x < nI (q * k) := fun z => by
        have e : (2:Int32) * nI x = nI (2 * x) := q_mul 2 x
        rw [e] at z
        have := (nI_lti (by omega) (by omega)).mp z; omega
      have lb : ∃ t10 r10, f_X5_leastBid v' t9 r9 (nI W) = some ((-99999:Int32), (t10, r10)) ∧ Z8 t10 ∧ Rz c r10 := by
        obtain ⟨B, P, gu, b, aw, ta, ins, F, O, G, H, S, D, rfl, okw⟩ := ok'
        obtain ⟨pd', mg', k', P1, F1, O1, S1, D1, hk, hmg, zp, zm, hz8, hpay⟩ := pay_all okw
        obtain ⟨y, t1, e1, z1, hx⟩ := leastBid_ok okw h1 hW hk hmg zp zm hz8 hpay z9 zr9
        rcases hx with ⟨rfl, -⟩ | ⟨n, -, -, hw, -⟩
        · exact ⟨_, _, e1, z1, zp, zm⟩
        · have := hw.can h1 (by omega) hW
          rw [cnT_no (Or.inr (Or.inr s8))] at this
          cases this
      obtain ⟨t10, r10, e10, z10, zr10⟩ := lb
      have n3 : ¬ nI d < (0:Int32) := fun z => (nI_nn (by omega)).mp z
      refine ⟨v', t10, r10, p6, ar3, m + 1, ?_, z10, zr10, tp6.nil, ok', by omega, pbz⟩
      rw [f_L_month, bd_r a1, bd_r a2, bd_r a3, bd_r b10, bd_r b6, bd_r b7, lt_e, bd_r e1, bd_r a4, bd_r a5, if_neg n01, bd_r e6, if_pos rfl, bd_r a6, if_pos m1.symm, bd_r b6', bd_r b7', if_pos s1, bd_r a7, gz, if_neg nq, if_pos rem, bd_r b2', bd_r b3', if_pos z0, bd_r e8, el_in, if_neg nn, bd_r m4, if_pos rfl, bd_r m8, if_neg n1, bd_r m8, if_neg n2, bd_r e10, if_pos rfl, bd_r b10', if_neg (show ¬ sI c (St_misses v') - sI c (St_misses v) < 0 from by rw [s2, add_back]; exact n3)]
