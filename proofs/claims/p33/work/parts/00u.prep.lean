/-! bids and marks for a month; a circle is built -/
section PREP
variable {c m q B g : Nat} {P : Nat → Nat} {gu : Nat → Int32} {b : Nat → Nat} {aw ta ins : Nat → Int32} {F O G H S D : Nat → Nat}
theorem lawPrep {v : StV} (ok : Ok c m q g v) (pb : PB c v) {p : PaV} (tp : Top p []) (h : Int32) : ∃ v' p', f_L_prepare v p (nI c) h = some ((1:Int32), (v', p')) ∧ Ok c m q g v' ∧ Top p' [] := by
  have c8 : c ≤ 7 := ok.cnt.2.2.2.2.2.2.2.1
  have lo : One (lp (b_L_prepare_5 (nI c) h) FU ((1:Int32), (0:Int32), v, p)) (fun e => ∃ v' p', e = ((1:Int32), nI c, v', p') ∧ Ok c m q g v' ∧ Top p' []) := by
    refine lp_one (fun n s => ∃ i v' p', s = ((1:Int32), nI i, v', p') ∧ i ≤ c ∧ n = c - i ∧ Ok c m q g v' ∧ Top p' [] ∧ (∀ j, i ≤ j → j < c → St_inside v' j = 1 → St_taken v' j = 0 → St_bid v' j = 0)) _ ?_ (n := c) ⟨0, v, p, rfl, by omega, by omega, ok, tp, fun j _ hj => pb j hj⟩ (FU_gt (by omega))
    rintro n s ⟨i, v', p', rfl, h1, rfl, ok', tp', pb'⟩ J hJ
    by_cases e : i = c
    · subst e
      simp (disch := omega) only [b_L_prepare_5, nI_lei, Nat.le_refl, ↓reduceIte]
      exact ⟨v', p', rfl, ok', tp'⟩
    · have ni : ¬ c ≤ i := by omega
      have hic : i < c := by omega
      obtain ⟨B, P, gu, b, aw, ta, ins, F, O, G, H, S, D, rfl, okw⟩ := ok'
      obtain ⟨-, -, -, ha, ht, hi, -⟩ := id okw
      have hc : ∀ {b' : Nat → Nat} {aw' : Nat → Int32}, St_count (nI c, nI m, nI q, nI B, nI g, nf P, gu, nf b', aw', ta, ins, nf F, nf O, nf G, nf H, nf S, nf D) = nI c := fun {_ _} => rfl
      have m5 : f_X5_member (nI c, nI m, nI q, nI B, nI g, nf P, gu, nf b, aw, ta, ins, nf F, nf O, nf G, nf H, nf S, nf D) (nI i) (5:Int32) = some (ins i, ()) := mem_5 (n := c) hc hic (by omega) hi
      have m4 : f_X5_member (nI c, nI m, nI q, nI B, nI g, nf P, gu, nf b, aw, ta, ins, nf F, nf O, nf G, nf H, nf S, nf D) (nI i) (4:Int32) = some (ta i, ()) := mem_4 (n := c) hc hic (by omega) ht
      have m3 : ∀ {b' : Nat → Nat}, f_X5_member (nI c, nI m, nI q, nI B, nI g, nf P, gu, nf b', aw, ta, ins, nf F, nf O, nf G, nf H, nf S, nf D) (nI i) (3:Int32) = some (aw i, ()) := fun {b'} => mem_3 (n := c) hc hic (by omega) ha
      have m3' : ∀ {b' : Nat → Nat}, f_X5_member (nI c, nI m, nI q, nI B, nI g, nf P, gu, nf b', upd aw i 1, ta, ins, nf F, nf O, nf G, nf H, nf S, nf D) (nI i) (3:Int32) = some ((1:Int32), ()) := fun {b'} => (mem_3 (n := c) hc hic (by omega) (ha.upd (Or.inr rfl))).trans (by show some (upd aw i 1 i, ()) = _; rw [upd_same])
      have m2 : ∀ {x : Nat}, f_X5_member (nI c, nI m, nI q, nI B, nI g, nf P, gu, nf (un b i x), aw, ta, ins, nf F, nf O, nf G, nf H, nf S, nf D) (nI i) (2:Int32) = some (nI x, ()) := fun {x} => (mem_2 (n := c) hc hic (by omega)).trans (by show some (nf (un b i x) i, ()) = _; rw [nf_at, un_same])
      have later : ∀ {b' : Nat → Nat} {aw' : Nat → Int32} {p9 : PaV}, (b' = b ∨ ∃ x, b' = un b i x) → OkW c m q B g P gu b' aw' ta ins F O G H S D → Top p9 [] → J ((1:Int32), nI (i + 1), (nI c, nI m, nI q, nI B, nI g, nf P, gu, nf b', aw', ta, ins, nf F, nf O, nf G, nf H, nf S, nf D), p9) := fun {b' aw' p9} hb ok9 tp9 => hJ _ _ (by omega) ⟨i + 1, _, p9, rfl, by omega, rfl, ⟨B, P, gu, b', aw', ta, ins, F, O, G, H, S, D, rfl, ok9⟩, tp9, fun j hj hjc x1 x2 => by
        have e1 := pb' j (by omega) hjc x1 x2
        show nf b' j = 0
        rcases hb with rfl | ⟨x, rfl⟩
        · exact e1
        · rw [nf_at, un_ne (by omega)]; exact e1⟩
      obtain ⟨y, hy, e7⟩ := low_ok (h >>> (((3:Int32) * nI i) &&& 31) >>> ((2:Int32) &&& 31)) (k := 7) (by omega) (by omega)
      have e7 : f_L_low (h >>> (((3:Int32) * nI i) &&& 31) >>> ((2:Int32) &&& 31)) (7:Int32) = some (nI y, ()) := e7
      obtain ⟨z, hz, e2⟩ := low_ok (h >>> (((3:Int32) * nI i) &&& 31)) (k := 2) (by omega) (by omega)
      have e2 : f_L_low (h >>> (((3:Int32) * nI i) &&& 31)) (2:Int32) = some (nI z, ()) := e2
      obtain ⟨x, hx, e60⟩ := low_ok (h >>> (((3:Int32) * nI i) &&& 31) >>> ((1:Int32) &&& 31)) (k := 60) (by omega) (by omega)
      have e60 : f_L_low (h >>> (((3:Int32) * nI i) &&& 31) >>> ((1:Int32) &&& 31)) (60:Int32) = some (nI x, ()) := e60
      have nc : ¬ nI c ≤ nI i := fun z => ni ((nI_lei (by omega) (by omega)).mp z)
      have o1 : ¬ (1:Int32) = 0 := by decide
      rcases hi i with i1 | i1
      · have _u := trivial
        by_cases y0 : nI y = (0:Int32)
        · rcases ha i with a1 | a1
          · obtain ⟨p9, s1, s2, s3⟩ := away_ok okw tp' (by simp) hic a1
            rw [b_L_prepare_5, if_neg nc, if_neg o1, lt_e, bd_r m5, if_neg (show ¬ ins i = 1 from fun z => absurd (i1.symm.trans z) (by decide)), if_pos rfl, bd_r e7, if_pos y0, bd_r m3, if_pos a1, if_neg o1, bd_r s1, if_pos rfl, bd_r m3', if_pos rfl, lt_e, nI_s1]
            exact later (Or.inl rfl) s3 s2
          · rw [b_L_prepare_5, if_neg nc, if_neg o1, lt_e, bd_r m5, if_neg (show ¬ ins i = 1 from fun z => absurd (i1.symm.trans z) (by decide)), if_pos rfl, bd_r e7, if_pos y0, bd_r m3, if_neg (show ¬ aw i = 0 from fun z => absurd (a1.symm.trans z) (by decide)), lt_e, nI_s1]
            exact later (Or.inl rfl) okw tp'
        · rw [b_L_prepare_5, if_neg nc, if_neg o1, lt_e, bd_r m5, if_neg (show ¬ ins i = 1 from fun z => absurd (i1.symm.trans z) (by decide)), if_pos rfl, bd_r e7, if_neg y0, lt_e, nI_s1]
          exact later (Or.inl rfl) okw tp'
      · rcases ht i with i2 | i2
        · by_cases z0 : nI z = (0:Int32)
          · obtain ⟨p8, t1, t2, t3⟩ := bid_ok okw tp' (by simp) hic (n := x) (by omega) i1 i2
            have bz : nI (b i) = (0:Int32) := pb' i (Nat.le_refl _) hic i1 i2
            rw [bz] at t1
            by_cases y0 : nI y = (0:Int32)
            · rcases ha i with a1 | a1
              · obtain ⟨p9, s1, s2, s3⟩ := away_ok t3 t2.nil (by simp) hic a1
                rw [b_L_prepare_5, if_neg nc, if_neg o1, lt_e, bd_r m5, if_pos i1, bd_r m4, if_pos i2, if_neg o1, bd_r e2, if_pos z0, bd_r e60, bd_r t1, if_pos rfl, bd_r m2, if_pos rfl, bd_r e7, if_pos y0, bd_r m3, if_pos a1, if_neg o1, bd_r s1, if_pos rfl, bd_r m3', if_pos rfl, lt_e, nI_s1]
                exact later (Or.inr ⟨x, rfl⟩) s3 s2
              · rw [b_L_prepare_5, if_neg nc, if_neg o1, lt_e, bd_r m5, if_pos i1, bd_r m4, if_pos i2, if_neg o1, bd_r e2, if_pos z0, bd_r e60, bd_r t1, if_pos rfl, bd_r m2, if_pos rfl, bd_r e7, if_pos y0, bd_r m3, if_neg (show ¬ aw i = 0 from fun z => absurd (a1.symm.trans z) (by decide)), lt_e, nI_s1]
                exact later (Or.inr ⟨x, rfl⟩) t3 t2.nil
            · rw [b_L_prepare_5, if_neg nc, if_neg o1, lt_e, bd_r m5, if_pos i1, bd_r m4, if_pos i2, if_neg o1, bd_r e2, if_pos z0, bd_r e60, bd_r t1, if_pos rfl, bd_r m2, if_pos rfl, bd_r e7, if_neg y0, lt_e, nI_s1]
              exact later (Or.inr ⟨x, rfl⟩) t3 t2.nil
          · have _u := trivial
            by_cases y0 : nI y = (0:Int32)
            · rcases ha i with a1 | a1
              · obtain ⟨p9, s1, s2, s3⟩ := away_ok okw tp' (by simp) hic a1
                rw [b_L_prepare_5, if_neg nc, if_neg o1, lt_e, bd_r m5, if_pos i1, bd_r m4, if_pos i2, if_neg o1, bd_r e2, if_neg z0, bd_r e7, if_pos y0, bd_r m3, if_pos a1, if_neg o1, bd_r s1, if_pos rfl, bd_r m3', if_pos rfl, lt_e, nI_s1]
                exact later (Or.inl rfl) s3 s2
              · rw [b_L_prepare_5, if_neg nc, if_neg o1, lt_e, bd_r m5, if_pos i1, bd_r m4, if_pos i2, if_neg o1, bd_r e2, if_neg z0, bd_r e7, if_pos y0, bd_r m3, if_neg (show ¬ aw i = 0 from fun z => absurd (a1.symm.trans z) (by decide)), lt_e, nI_s1]
                exact later (Or.inl rfl) okw tp'
            · rw [b_L_prepare_5, if_neg nc, if_neg o1, lt_e, bd_r m5, if_pos i1, bd_r m4, if_pos i2, if_neg o1, bd_r e2, if_neg z0, bd_r e7, if_neg y0, lt_e, nI_s1]
              exact later (Or.inl rfl) okw tp'
        · have _u := trivial
          by_cases y0 : nI y = (0:Int32)
          · rcases ha i with a1 | a1
            · obtain ⟨p9, s1, s2, s3⟩ := away_ok okw tp' (by simp) hic a1
              rw [b_L_prepare_5, if_neg nc, if_neg o1, lt_e, bd_r m5, if_pos i1, bd_r m4, if_neg (show ¬ ta i = 0 from fun z => absurd (i2.symm.trans z) (by decide)), if_pos rfl, bd_r e7, if_pos y0, bd_r m3, if_pos a1, if_neg o1, bd_r s1, if_pos rfl, bd_r m3', if_pos rfl, lt_e, nI_s1]
              exact later (Or.inl rfl) s3 s2
            · rw [b_L_prepare_5, if_neg nc, if_neg o1, lt_e, bd_r m5, if_pos i1, bd_r m4, if_neg (show ¬ ta i = 0 from fun z => absurd (i2.symm.trans z) (by decide)), if_pos rfl, bd_r e7, if_pos y0, bd_r m3, if_neg (show ¬ aw i = 0 from fun z => absurd (a1.symm.trans z) (by decide)), lt_e, nI_s1]
              exact later (Or.inl rfl) okw tp'
          · rw [b_L_prepare_5, if_neg nc, if_neg o1, lt_e, bd_r m5, if_pos i1, bd_r m4, if_neg (show ¬ ta i = 0 from fun z => absurd (i2.symm.trans z) (by decide)), if_pos rfl, bd_r e7, if_neg y0, lt_e, nI_s1]
            exact later (Or.inl rfl) okw tp'
  obtain ⟨e, e1, v', p', rfl, h1, h2⟩ := on_get lo
  have gb1 : ∀ {B : Type} {k : Option B}, gb (1:Int32) k = k := fun {B k} => if_pos rfl
  exact ⟨v', p', by rw [f_L_prepare, e1, bd_s, gb1], h1, h2⟩
end PREP
theorem lawBuild {xs : Nat → Int32} {L n q : Nat} (hL : L ≤ 260) (n1 : 1 ≤ n) (n7 : n ≤ 7) {v : StV} (ok : Ok 0 0 q 0 v) {p : PaV} (tp : Top p []) : ∃ v' p' g, f_L_build xs L v p (nI n) = some ((1:Int32), (v', p')) ∧ Ok n 0 q g v' ∧ g ≤ 2800 ∧ Top p' [] ∧ PB n v' := by
  obtain ⟨g0, e0⟩ := cell_ok (xs := xs) (i := 1) hL (by omega)
  have e0 : f_L_cell xs L (1:Int32) = some (g0, ()) := e0
  have l1 : One (lp (b_L_build_12 xs L (nI n) g0) FU ((1:Int32), (0:Int32), v, p)) (fun e => ∃ v' p' g, e = ((1:Int32), nI n, v', p') ∧ Ok n 0 q g v' ∧ g ≤ 2800 ∧ Top p' [] ∧ (∀ j, j < n → St_guarantor v' j = (-99999:Int32)) ∧ PB n v') := by
    refine lp_one (fun k s => ∃ i v' p' g, s = ((1:Int32), nI i, v', p') ∧ i ≤ n ∧ k = n - i ∧ Ok i 0 q g v' ∧ g ≤ 400 * i ∧ Top p' [] ∧ (∀ j, j < i → St_guarantor v' j = (-99999:Int32)) ∧ (∀ j, St_bid v' j = 0)) _ ?_ (n := n) ⟨0, v, p, 0, rfl, by omega, by omega, ok, by omega, tp, fun j hj => by omega, fun j => ?_⟩ (FU_gt (by omega))
    · rintro k s ⟨i, v', p', g, rfl, h1, rfl, ok', hg, tp', hgu, hbz⟩ J hJ
      by_cases e : i = n
      · subst e
        simp (disch := omega) only [b_L_build_12, nI_lei, Nat.le_refl, ↓reduceIte]
        exact ⟨v', p', g, rfl, ok', by omega, tp', hgu, fun j _ _ _ => hbz j⟩
      · have ni : ¬ n ≤ i := by omega
        obtain ⟨B, P, gu, b, aw, ta, ins, F, O, G, H, S, D, rfl, okw⟩ := ok'
        obtain ⟨s, es⟩ := cell_ok (xs := xs) (i := 2 + i) hL (by omega)
        have p2 : (2:Int32) + nI i = nI (2 + i) := q_add 2 i
        obtain ⟨t, ht, et⟩ := low_ok (g0 >>> (nI i &&& 31)) (k := 3) (by omega) (by omega)
        have et : f_L_low (g0 >>> (nI i &&& 31)) (3:Int32) = some (nI t, ()) := et
        have go : ∀ x, x ≤ 400 → ∃ v2 p2, f_X5_addMember (nI i, nI 0, nI q, nI B, nI g, nf P, gu, nf b, aw, ta, ins, nf F, nf O, nf G, nf H, nf S, nf D) p' (nI x) = some (nI i, (v2, p2)) ∧ f_X5_member v2 (nI i) (0:Int32) = some (nI x, ()) ∧ f_X5_member v2 (nI i) (1:Int32) = some ((-99999:Int32), ()) ∧ f_X5_member v2 (nI i) (5:Int32) = some ((1:Int32), ()) ∧ J ((1:Int32), nI (i + 1), v2, p2) := by
          intro x hx
          obtain ⟨v2, p2, a1, a2, a3, a4, a5, a6, a7, a8, a9⟩ := addM_ok okw tp' (by simp) (by omega) (x := x) (by omega) (by omega)
          obtain ⟨hc, -, -, -, -, -, bi, -⟩ := a2.cnt
          refine ⟨v2, p2, a1, ?_, ?_, ?_, hJ _ _ (by omega) ⟨i + 1, v2, p2, g + x, rfl, by omega, rfl, a2, by omega, a3, fun j hj => ?_, fun j => ?_⟩⟩
          · rw [← a4]; exact mem_0 hc (by omega) (by omega)
          · rw [← a5]; exact mem_1 hc (by omega) (by omega)
          · rw [← a6]; exact mem_5 hc (by omega) (by omega) bi
          · by_cases q9 : j = i
            · subst q9; exact a5
            · rw [a8 j (by omega)]; exact hgu j (by omega)
          · exact a9 j (hbz j)
        by_cases t0 : nI t = (0:Int32)
        · obtain ⟨x, hx, ex⟩ := low_ok s (k := 20) (by omega) (by omega)
          have ex : f_L_low s (20:Int32) = some (nI x, ()) := ex
          obtain ⟨v2, p3, a1, a2, a3, a4, a5⟩ := go x (by omega)
          simp (disch := omega) only [b_L_build_12, nI_lei, ni, o_ne, p2, es, et, t0, ex, a1, a2, a3, a4, bd_s, lt_e, nI_s1, ↓reduceIte]
          exact a5
        · obtain ⟨x, hx, ex⟩ := low_ok s (k := 400) (by omega) (by omega)
          have ex : f_L_low s (400:Int32) = some (nI x, ()) := ex
          obtain ⟨v2, p3, a1, a2, a3, a4, a5⟩ := go x (by omega)
          simp (disch := omega) only [b_L_build_12, nI_lei, ni, o_ne, p2, es, et, if_neg t0, ex, a1, a2, a3, a4, bd_s, lt_e, nI_s1, ↓reduceIte]
          exact a5
    · obtain ⟨B, P, gu, b, aw, ta, ins, F, O, G, H, S, D, rfl, okw⟩ := ok
      show nf b j = 0
      rw [nf_at, okw.2.2.2.2.2.2.2.2.2.2.2.2.1 j (by omega)]
      rfl
  obtain ⟨e, e1, v1, p1, g, rfl, ok1, hg, tp1, hgu, pb1⟩ := on_get l1
  have l2 : One (lp (b_L_build_116 xs L (nI n)) FU ((1:Int32), (0:Int32), v1, p1)) (fun e => ∃ x v' p', e = ((1:Int32), x, v', p') ∧ Ok n 0 q g v' ∧ Top p' [] ∧ PB n v') := by
    refine lp_one (fun k s => ∃ i v' p', s = ((1:Int32), nI i, v', p') ∧ i ≤ n ∧ k = n - i ∧ Ok n 0 q g v' ∧ Top p' [] ∧ (∀ j, i ≤ j → j < n → St_guarantor v' j = (-99999:Int32)) ∧ PB n v') _ ?_ (n := n) ⟨0, v1, p1, rfl, by omega, by omega, ok1, tp1, fun j _ hj => hgu j hj, pb1⟩ (FU_gt (by omega))
    rintro k s ⟨i, v', p', rfl, h1, rfl, ok', tp', hgu', pb'⟩ J hJ
    by_cases e : i = n
    · subst e
      simp (disch := omega) only [b_L_build_116, nI_lei, Nat.le_refl, ↓reduceIte]
      exact ⟨_, v', p', rfl, ok', tp', pb'⟩
    · have ni : ¬ n ≤ i := by omega
      by_cases n2 : n = 1
      · have le : nI n ≤ (1:Int32) := (nI_lei (b := 1) (by omega) (by omega)).mpr (by omega)
        simp (disch := omega) only [b_L_build_116, nI_lei, ni, o_ne, le, ↓reduceIte]
        exact ⟨_, v', p', rfl, ok', tp', pb'⟩
      · have nle : ¬ nI n ≤ (1:Int32) := fun z => by have := (nI_lei (b := 1) (by omega) (by omega)).mp z; omega
        obtain ⟨s, es⟩ := cell_ok (xs := xs) (i := 10 + i) hL (by omega)
        have p10 : (10:Int32) + nI i = nI (10 + i) := q_add 10 i
        obtain ⟨t, ht, et⟩ := low_ok s (k := 2) (by omega) (by omega)
        have et : f_L_low s (2:Int32) = some (nI t, ()) := et
        by_cases t0 : nI t = (0:Int32)
        · obtain ⟨B, P, gu, b, aw, ta, ins, F, O, G, H, S, D, rfl, okw⟩ := ok'
          obtain ⟨x, hx, ex⟩ := low_ok (s >>> ((1:Int32) &&& 31)) (k := n - 1) (by omega) (by omega)
          have n1' : nI n - (1:Int32) = nI (n - 1) := nI_sub (b := 1) (by omega)
          have nz : ¬ nI n = 0 := fun z => by have := (nI_inj (b := 0) (by omega) (by omega)).mp z; omega
          have rem : nI (i + 1 + x) - nI (i + 1 + x) / nI n * nI n = nI ((i + 1 + x) % n) := nI_rem (by omega) (by omega)
          have on : (i + 1 + x) % n < n := Nat.mod_lt _ (by omega)
          have oi : i ≠ (i + 1 + x) % n := by
            by_cases w : i + 1 + x < n
            · rw [Nat.mod_eq_of_lt w]; omega
            · rw [Nat.mod_eq_sub_mod (by omega), Nat.mod_eq_of_lt (by omega)]; omega
          obtain ⟨p9, a1, a2, a3⟩ := setG_ok okw tp' (by simp) (i := i) (o := (i + 1 + x) % n) (by omega) on oi
          have gi' : gu i = (-99999:Int32) := hgu' i (Nat.le_refl _) (by omega)
          rw [gi'] at a1
          have m1 : f_X5_member (nI n, nI 0, nI q, nI B, nI g, nf P, upd gu i (nI ((i + 1 + x) % n)), nf b, aw, ta, ins, nf F, nf O, nf G, nf H, nf S, nf D) (nI i) (1:Int32) = some (nI ((i + 1 + x) % n), ()) := (mem_1 (n := n) rfl (by omega) (by omega)).trans (by show some (upd gu i _ i, ()) = _; rw [upd_same])
          simp (disch := omega) only [b_L_build_116, nI_lei, ni, o_ne, nle, p10, es, et, t0, n1', ex, gz, nz, nI_s1, q_add, rem, a1, m1, bd_s, lt_e, ↓reduceIte]
          refine hJ _ _ (by omega) ⟨i + 1, _, p9, rfl, by omega, rfl, ⟨B, P, _, b, aw, ta, ins, F, O, G, H, S, D, rfl, a3⟩, a2, fun j hj hjn => ?_, pb'⟩
          show upd gu i _ j = _
          rw [upd_ne (by omega)]
          exact hgu' j (by omega) hjn
        · simp (disch := omega) only [b_L_build_116, nI_lei, ni, o_ne, nle, p10, es, et, if_neg t0, bd_s, lt_e, nI_s1, ↓reduceIte]
          exact hJ _ _ (by omega) ⟨i + 1, v', p', rfl, by omega, rfl, ok', tp', fun j hj => hgu' j (by omega), pb'⟩
  obtain ⟨e, e2, x, v2, p2, rfl, ok2, tp2, pb2⟩ := on_get l2
  have gb1 : ∀ {B : Type} {k : Option B}, gb (1:Int32) k = k := fun {B k} => if_pos rfl
  exact ⟨v2, p2, g, by rw [f_L_build, e0, bd_s, e1, bd_s, e2, bd_s, gb1], ok2, hg, tp2, pb2⟩
