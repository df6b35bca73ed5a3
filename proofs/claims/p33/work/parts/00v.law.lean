/-! the law as a whole -/
theorem ok_start : Ok 0 0 10 0 St_0 := by
  refine ⟨0, fun _ => 0, fun _ => 0, fun _ => 0, fun _ => 0, fun _ => 0, fun _ => 0, fun _ => 0, fun _ => 0, fun _ => 0, fun _ => 0, fun _ => 0, fun _ => 0, rfl, ⟨by omega, by omega, by omega, by omega, by omega⟩, rfl, fun i hi => by omega, fun _ => Or.inl rfl, fun _ => Or.inl rfl, fun _ => Or.inl rfl, fun _ => Nat.zero_le _, fun _ => Nat.zero_le _, fun _ => Nat.zero_le _, fun k hk => absurd rfl hk, fun _ _ => rfl, fun _ _ => rfl, fun _ _ => rfl, fun _ _ => rfl, fun _ _ => rfl, fun _ _ => rfl, fun _ _ => rfl, fun _ _ => rfl, fun _ _ => rfl, fun _ _ => rfl, fun _ _ => rfl⟩
theorem top_start : Top Pa_0 [] := ⟨0, 0, rfl, rfl, by omega, by omega, by simp, fun _ => ok_start.z, fun i v e => by simp at e⟩
/-- between the law's months -/
def Lq (c m q g : Nat) (w : LwV) : Prop := Ok c m q g w.1 ∧ Z8 w.2.1 ∧ Rz c w.2.2.1 ∧ Top w.2.2.2.1 [] ∧ PB c w.1
section LAW
variable {xs : Nat → Int32} {L c m q g : Nat} {v1 v2 : StV} {v3 : RdV} {v7 : PaV} {v12 : ArV} {h : Int32} {e : Nat}
theorem o_not : ¬ (1:Int32) = 0 := by decide
theorem law_81 (hL : L ≤ 260) (c1 : 1 ≤ c) (hm : m ≤ 98) (he : e ≤ 7) (a : Lq c m q g (v1, v2, v3, v7, v12)) : ∃ w m', f_law_81 xs L v1 v2 v3 v7 v12 (nI c) (nI e) = some w ∧ m' ≤ m + 1 ∧ Lq c m' q g (w.1, w.2.1, w.2.2.1, w.2.2.2.1, w.2.2.2.2.1) := by
  obtain ⟨a1, a2, a3, a4, a5⟩ := a
  have c8 : c ≤ 7 := a1.cnt.2.2.2.2.2.2.2.1
  obtain ⟨x, ex⟩ := cell_ok (xs := xs) (i := 20 + e) hL (by omega)
  obtain ⟨y, ey⟩ := cell_ok (xs := xs) (i := 30 + e) hL (by omega)
  have p20 : (20:Int32) + nI e = nI (20 + e) := q_add 20 e
  have p30 : (30:Int32) + nI e = nI (30 + e) := q_add 30 e
  obtain ⟨u1, p1, b1, b2, b3⟩ := lawPrep a1 a5 a4 x
  obtain ⟨i, hi, ei⟩ := low_ok y c1 (by omega)
  have b2' := b2
  obtain ⟨B, P, gu, b, aw, ta, ins, F, O, G, H, S, D, rfl, okw⟩ := b2
  obtain ⟨t2, r2, p2, d1, d2, d3, d4⟩ := lawLB okw c1 hm hi b3 (by simp) a2 a3
  obtain ⟨v', t3, r3, p3, ar3, m', f1, f2, f3, f4, f5, f6, f7⟩ := lawMonth b2' c1 hm d2 d3 d4 (by simp) v12
  refine ⟨(v', t3, r3, p3, ar3, y), m', ?_, f6, f5, f2, f3, f4, f7⟩
  simp only [f_law_81, p20, p30, ex, ey, b1, ei, d1, f1, f5.addUp, bd_s, o_not, ↓reduceIte]
theorem law_145 (c1 : 1 ≤ c) (hm : m ≤ 86) (i5 : Int32) (a : Lq c m q g (v1, v2, v3, v7, v12)) : ∃ w m', f_law_145 xs L v1 v2 v3 v7 v12 (nI c) i5 h = some w ∧ m' ≤ m + 12 ∧ Lq c m' q g w := by
  obtain ⟨a1, a2, a3, a4, a5⟩ := id a
  have c8 : c ≤ 7 := a1.cnt.2.2.2.2.2.2.2.1
  obtain ⟨x, hx, ex⟩ := low_ok (h >>> ((4:Int32) &&& 31)) (k := 4) (by omega) (by omega)
  have ex : f_L_low (h >>> ((4:Int32) &&& 31)) (4:Int32) = some (nI x, ()) := ex
  by_cases x0 : nI x = (0:Int32)
  · obtain ⟨i, hi, ei⟩ := low_ok (h >>> ((6:Int32) &&& 31)) c1 (by omega)
    obtain ⟨v', t', r', p', m', b1, b2, b3, b4, b5, b6, b7⟩ := lawEnd a1 c1 hm hi a5 a2 a3 a4
    exact ⟨(v', t', r', p', v12), m', by simp only [f_law_145, ex, x0, ei, b1, bd_s, o_not, ↓reduceIte], b6, b5, b2, b3, b4, b7⟩
  · exact ⟨(v1, v2, v3, v7, v12), m, by simp only [f_law_145, ex, if_neg x0, bd_s], by omega, a⟩
theorem law_174 (c1 : 1 ≤ c) (i5 : Int32) (a : Lq c m q g (v1, v2, v3, v7, v12)) : ∃ w, f_law_174 xs L v1 v2 v3 v7 v12 (nI c) i5 h = some w ∧ Lq c m q g w := by
  obtain ⟨a1, a2, a3, a4, a5⟩ := id a
  have c8 : c ≤ 7 := a1.cnt.2.2.2.2.2.2.2.1
  obtain ⟨x, hx, ex⟩ := low_ok (h >>> ((10:Int32) &&& 31)) (k := 5) (by omega) (by omega)
  have ex : f_L_low (h >>> ((10:Int32) &&& 31)) (5:Int32) = some (nI x, ()) := ex
  by_cases x0 : nI x = (0:Int32)
  · obtain ⟨i, hi, ei⟩ := low_ok (h >>> ((13:Int32) &&& 31)) c1 (by omega)
    obtain ⟨B, P, gu, b, aw, ta, ins, F, O, G, H, S, D, e, okw⟩ := a1
    have e : v1 = (nI c, nI m, nI q, nI B, nI g, nf P, gu, nf b, aw, ta, ins, nf F, nf O, nf G, nf H, nf S, nf D) := e
    subst e
    obtain ⟨v', p', b1, b2, b3, b4⟩ := leave_ok okw a4 (by simp) hi
    exact ⟨(v', v2, v3, p', v12), by simp only [f_law_174, ex, x0, ei, b1, bd_s, o_not, ↓reduceIte], b3, a2, a3, b2, b4 a5⟩
  · exact ⟨(v1, v2, v3, v7, v12), by simp only [f_law_174, ex, if_neg x0, bd_s], a⟩
theorem law_204 (c1 : 1 ≤ c) (i5 : Int32) (a : Lq c m q g (v1, v2, v3, v7, v12)) : ∃ w i, f_law_204 xs L v1 v2 v3 v7 v12 (nI c) i5 h = some w ∧ w.2.2.2.2.2 = nI i ∧ i < c ∧ Lq c m q g (w.1, w.2.1, w.2.2.1, w.2.2.2.1, w.2.2.2.2.1) := by
  obtain ⟨a1, a2, a3, a4, a5⟩ := id a
  have c8 : c ≤ 7 := a1.cnt.2.2.2.2.2.2.2.1
  obtain ⟨i, hi, ei⟩ := low_ok (h >>> ((16:Int32) &&& 31)) c1 (by omega)
  by_cases n1 : c = 1
  · have le : nI c ≤ (1:Int32) := (nI_lei (b := 1) (by omega) (by omega)).mpr (by omega)
    exact ⟨(v1, v2, v3, v7, v12, nI i), i, by simp only [f_law_204, ei, le, bd_s, ↓reduceIte], rfl, hi, a⟩
  · have nle : ¬ nI c ≤ (1:Int32) := fun z => by have := (nI_lei (b := 1) (by omega) (by omega)).mp z; omega
    obtain ⟨x, hx, ex⟩ := low_ok (h >>> ((20:Int32) &&& 31)) (k := c - 1) (by omega) (by omega)
    have n1' : nI c - (1:Int32) = nI (c - 1) := nI_sub (b := 1) (by omega)
    have nz : ¬ nI c = 0 := fun z => by have := (nI_inj (b := 0) (by omega) (by omega)).mp z; omega
    have rem : nI (i + 1 + x) - nI (i + 1 + x) / nI c * nI c = nI ((i + 1 + x) % c) := nI_rem (by omega) (by omega)
    have on : (i + 1 + x) % c < c := Nat.mod_lt _ (by omega)
    have oi : i ≠ (i + 1 + x) % c := by
      by_cases w : i + 1 + x < c
      · rw [Nat.mod_eq_of_lt w]; omega
      · rw [Nat.mod_eq_sub_mod (by omega), Nat.mod_eq_of_lt (by omega)]; omega
    obtain ⟨B, P, gu, b, aw, ta, ins, F, O, G, H, S, D, e, okw⟩ := a1
    have e : v1 = (nI c, nI m, nI q, nI B, nI g, nf P, gu, nf b, aw, ta, ins, nf F, nf O, nf G, nf H, nf S, nf D) := e
    subst e
    have hP9 := okw.P9 i
    generalize hj : (i + 1 + x) % c = j at on oi rem
    obtain ⟨y, p', b1, b2, b3, b4, b5, b6⟩ := repay_ok okw a4 (by simp) hi on oi
    have hD : ∀ k, D k ≤ 20 * m := okw.2.2.2.2.2.2.2.2.1
    have hm : m ≤ 99 := okw.1.2.2.2.1
    have d9 := hD (i * 8 + j)
    have hc : ∀ {P' D' : Nat → Nat}, St_count (nI c, nI m, nI q, nI B, nI g, nf P', gu, nf b, aw, ta, ins, nf F, nf O, nf G, nf H, nf S, nf D') = nI c := fun {_ _} => rfl
    have o1 : f_X5_owes (nI c, nI m, nI q, nI B, nI g, nf P, gu, nf b, aw, ta, ins, nf F, nf O, nf G, nf H, nf S, nf D) (nI i) (nI j) = some (nI (D (i * 8 + j)), ()) := owe_n (n := c) hc hi on oi (by omega)
    have m1 : f_X5_member (nI c, nI m, nI q, nI B, nI g, nf P, gu, nf b, aw, ta, ins, nf F, nf O, nf G, nf H, nf S, nf D) (nI i) (0:Int32) = some (nI (P i), ()) := mem_0 (n := c) hc hi (by omega)
    have m2 : f_X5_member (nI c, nI m, nI q, nI B, nI g, nf P, gu, nf b, aw, ta, ins, nf F, nf O, nf G, nf H, nf S, nf D) (nI j) (0:Int32) = some (nI (P j), ()) := mem_0 (n := c) hc on (by omega)
    have o3 : f_X5_owes (nI c, nI m, nI q, nI B, nI g, nf (un (un P j (P j + y)) i (P i - y)), gu, nf b, aw, ta, ins, nf F, nf O, nf G, nf H, nf S, nf (un D (i * 8 + j) (D (i * 8 + j) - y))) (nI i) (nI j) = some (nI (D (i * 8 + j) - y), ()) := (owe_n (n := c) hc hi on oi (by omega)).trans (by show some (nf (un D (i * 8 + j) _) (i * 8 + j), ()) = _; rw [nf_at, un_same])
    have m3 : f_X5_member (nI c, nI m, nI q, nI B, nI g, nf (un (un P j (P j + y)) i (P i - y)), gu, nf b, aw, ta, ins, nf F, nf O, nf G, nf H, nf S, nf (un D (i * 8 + j) (D (i * 8 + j) - y))) (nI i) (0:Int32) = some (nI (P i - y), ()) := (mem_0 (n := c) hc hi (by omega)).trans (by show some (nf (un _ i _) i, ()) = _; rw [nf_at, un_same])
    have m4 : f_X5_member (nI c, nI m, nI q, nI B, nI g, nf (un (un P j (P j + y)) i (P i - y)), gu, nf b, aw, ta, ins, nf F, nf O, nf G, nf H, nf S, nf (un D (i * 8 + j) (D (i * 8 + j) - y))) (nI j) (0:Int32) = some (nI (P j + y), ()) := (mem_0 (n := c) hc on (by omega)).trans (by show some (nf (un (un P j (P j + y)) i _) j, ()) = _; rw [nf_at, un_ne (Ne.symm oi), un_same])
    refine ⟨((nI c, nI m, nI q, nI B, nI g, nf (un (un P j (P j + y)) i (P i - y)), gu, nf b, aw, ta, ins, nf F, nf O, nf G, nf H, nf S, nf (un D (i * 8 + j) (D (i * 8 + j) - y))), v2, v3, p', v12, nI i), i, ?_, rfl, hi, ⟨B, _, gu, b, aw, ta, ins, F, O, G, H, S, _, rfl, b6⟩, a2, a3, b5, a5⟩
    have rp : f_L_repay (nI c, nI m, nI q, nI B, nI g, nf P, gu, nf b, aw, ta, ins, nf F, nf O, nf G, nf H, nf S, nf D) v7 (nI i) (nI j) = some ((1:Int32), ((nI c, nI m, nI q, nI B, nI g, nf (un (un P j (P j + y)) i (P i - y)), gu, nf b, aw, ta, ins, nf F, nf O, nf G, nf H, nf S, nf (un D (i * 8 + j) (D (i * 8 + j) - y))), p')) := by
      by_cases q9 : P i ≤ D (i * 8 + j)
      · have yP : y = P i := by rw [b3]; split <;> omega
        rw [f_L_repay, bd_r o1, bd_r m1, bd_r m2, if_pos (show nI (P i) ≤ nI (D (i * 8 + j)) from (nI_lei (by omega) (by omega)).mpr q9), bd_r b4, if_pos (show nI y = nI (P i) from by rw [yP]), bd_r o3, if_pos (show nI (D (i * 8 + j) - y) = nI (D (i * 8 + j)) - nI (P i) from by rw [nI_sub (by omega), yP]), bd_r m3, if_pos (show nI (P i - y) = nI (P i) - nI (P i) from by rw [nI_sub (by omega), yP]), bd_r m4, if_pos (show nI (P j + y) = nI (P j) + nI (P i) from by rw [q_add, yP])]
      · have yD : y = D (i * 8 + j) := by rw [b3]; split <;> omega
        rw [f_L_repay, bd_r o1, bd_r m1, bd_r m2, if_neg (show ¬ nI (P i) ≤ nI (D (i * 8 + j)) from fun z => q9 ((nI_lei (by omega) (by omega)).mp z)), bd_r b4, if_pos (show nI y = nI (D (i * 8 + j)) from by rw [yD]), bd_r o3, if_pos (show nI (D (i * 8 + j) - y) = nI (D (i * 8 + j)) - nI (D (i * 8 + j)) from by rw [nI_sub (by omega), yD]), bd_r m3, if_pos (show nI (P i - y) = nI (P i) - nI (D (i * 8 + j)) from by rw [nI_sub (by omega), yD]), bd_r m4, if_pos (show nI (P j + y) = nI (P j) + nI (D (i * 8 + j)) from by rw [q_add, yD])]
    simp only [f_law_204, ei, if_neg nle, n1', ex, gz, if_neg nz, nI_s1, q_add, rem, hj, rp, bd_s, lt_e, o_not, ↓reduceIte]
theorem law_249 {i : Nat} (c1 : 1 ≤ c) (hg : g ≤ 8000) (hic : i < c) (i5 : Int32) (a : Lq c m q g (v1, v2, v3, v7, v12)) : ∃ w g', f_law_249 xs L v1 v2 v3 v7 v12 (nI c) i5 h (nI i) = some w ∧ g' ≤ g + 30 ∧ Lq c m q g' w := by
  obtain ⟨a1, a2, a3, a4, a5⟩ := id a
  have c8 : c ≤ 7 := a1.cnt.2.2.2.2.2.2.2.1
  obtain ⟨x, hx, ex⟩ := low_ok (h >>> ((24:Int32) &&& 31)) (k := 3) (by omega) (by omega)
  have ex : f_L_low (h >>> ((24:Int32) &&& 31)) (3:Int32) = some (nI x, ()) := ex
  by_cases x0 : nI x = (0:Int32)
  · obtain ⟨y, hy, ey⟩ := low_ok (h >>> ((26:Int32) &&& 31)) (k := 30) (by omega) (by omega)
    have ey : f_L_low (h >>> ((26:Int32) &&& 31)) (30:Int32) = some (nI y, ()) := ey
    have p1 : (1:Int32) + nI y = nI (1 + y) := q_add 1 y
    obtain ⟨B, P, gu, b, aw, ta, ins, F, O, G, H, S, D, e, okw⟩ := a1
    have e : v1 = (nI c, nI m, nI q, nI B, nI g, nf P, gu, nf b, aw, ta, ins, nf F, nf O, nf G, nf H, nf S, nf D) := e
    subst e
    have m1 : f_X5_member (nI c, nI m, nI q, nI B, nI g, nf P, gu, nf b, aw, ta, ins, nf F, nf O, nf G, nf H, nf S, nf D) (nI i) (0:Int32) = some (nI (P i), ()) := mem_0 (n := c) rfl hic (by omega)
    obtain ⟨p', b1, b2, b3⟩ := give_ok okw a4 (by simp) hic (n := 1 + y) (by omega) (by omega) (by omega)
    exact ⟨((nI c, nI m, nI q, nI B, nI (g + (1 + y)), nf (un P i (P i + (1 + y))), gu, nf b, aw, ta, ins, nf F, nf O, nf G, nf H, nf S, nf D), v2, v3, p', v12), g + (1 + y), by simp only [f_law_249, ex, x0, m1, ey, p1, b1, bd_s, lt_e, q_add, ↓reduceIte], by omega, ⟨B, _, gu, b, aw, ta, ins, F, O, G, H, S, D, rfl, b3⟩, a2, a3, b2, a5⟩
  · exact ⟨(v1, v2, v3, v7, v12), g, by simp only [f_law_249, ex, if_neg x0, bd_s], by omega, a⟩
theorem law_302 (i5 : Int32) (a : Lq c m q g (v1, v2, v3, v7, v12)) : f_law_302 xs L v1 v2 v3 v7 v12 (nI c) i5 = some (v1, v2, v3, v7, v12) := by
  simp only [f_law_302, a.1.addUp, bd_s, o_not, ↓reduceIte]
theorem law_turn (hL : L ≤ 260) (c1 : 1 ≤ c) (he : e < 7) (hm : m ≤ 13 * e) (hg : g ≤ 2800 + 30 * e) {w : LwV} (a : Lq c m q g w) : ∃ w' m' g', b_law xs L (nI c) (nI e, w) = some (.inl (nI (e + 1), w')) ∧ m' ≤ 13 * (e + 1) ∧ g' ≤ 2800 + 30 * (e + 1) ∧ Lq c m' q g' w' := by
  have n7 : ¬ (7:Int32) ≤ nI e := fun z => by have := (nI_lei (a := 7) (by omega) (by omega)).mp z; omega
  obtain ⟨w1, m1, e1, k1, a1⟩ := law_81 (xs := xs) (e := e) hL c1 (by omega) (by omega) a
  obtain ⟨w2, m2, e2, k2, a2⟩ := law_145 (xs := xs) (L := L) (h := w1.2.2.2.2.2) c1 (by omega) (nI e) a1
  obtain ⟨w3, e3, a3⟩ := law_174 (xs := xs) (L := L) (h := w1.2.2.2.2.2) c1 (nI e) a2
  obtain ⟨w4, i, e4, i4, hi, a4⟩ := law_204 (xs := xs) (L := L) (h := w1.2.2.2.2.2) c1 (nI e) a3
  obtain ⟨w5, g5, e5, k5, a5⟩ := law_249 (xs := xs) (L := L) (h := w1.2.2.2.2.2) c1 (by omega) hi (nI e) a4
  have e6 := law_302 (xs := xs) (L := L) (nI e) a5
  refine ⟨w5, m2, g5, ?_, by omega, by omega, a5⟩
  have e4 : f_law_204 xs L w3.1 w3.2.1 w3.2.2.1 w3.2.2.2.1 w3.2.2.2.2 (nI c) (nI e) w1.2.2.2.2.2 = some w4 := e4
  simp only [b_law, n7, e1, e2, e3, e4, i4, e5, e6, bd_s, lt_e, nI_s1, ↓reduceIte]
end LAW
theorem law_pure (xs : Nat → Int32) {L : Nat} (hL : L ≤ 260) : ∃ w e1, f_law_13 xs L St_0 St_0 Rd_0 Pa_0 (fun _ => (0 : Int32)) = some w ∧ lp (b_law xs L (w.2.2.2.2.2)) 8 ((0 : Int32), w.1, w.2.1, w.2.2.1, w.2.2.2.1, w.2.2.2.2.1) = some e1 := by
  obtain ⟨x, ex⟩ := cell_ok (xs := xs) (i := 0) hL (by omega)
  have ex : f_L_cell xs L (0:Int32) = some (x, ()) := ex
  obtain ⟨n, hn, en⟩ := low_ok x (k := 7) (by omega) (by omega)
  have en : f_L_low x (7:Int32) = some (nI n, ()) := en
  have p1 : (1:Int32) + nI n = nI (1 + n) := q_add 1 n
  obtain ⟨y, ey⟩ := cell_ok (xs := xs) (i := 18) hL (by omega)
  have ey : f_L_cell xs L (18:Int32) = some (y, ()) := ey
  obtain ⟨q, hq, eq⟩ := low_ok y (k := 20) (by omega) (by omega)
  have eq : f_L_low y (20:Int32) = some (nI q, ()) := eq
  have p2 : (1:Int32) + nI q = nI (1 + q) := q_add 1 q
  obtain ⟨B, P, gu, b, aw, ta, ins, F, O, G, H, S, D, e0, okw⟩ := ok_start
  obtain ⟨p', b1, b2, b3⟩ := setC_ok okw top_start (by simp) (y := 1 + q) (by omega) (by omega)
  rw [← e0] at b1
  obtain ⟨v1, p3, g, c1, c2, c3, c4, c5⟩ := lawBuild (xs := xs) (n := 1 + n) hL (by omega) (by omega) ⟨B, P, gu, b, aw, ta, ins, F, O, G, H, S, D, rfl, b3⟩ b2
  have q10 : nI 10 = (10:Int32) := rfl
  rw [q10] at b1
  have e1 : f_law_13 xs L St_0 St_0 Rd_0 Pa_0 (fun _ => (0 : Int32)) = some (v1, St_0, Rd_0, p3, (fun _ => (0 : Int32)), nI (1 + n)) := by
    simp only [f_law_13, ex, en, p1, ey, eq, p2, b1, c1, c2.addUp, bd_s, lt_e, o_not, ↓reduceIte]
  have z0 : Zi (1 + n) (fun _ => 0) := fun _ _ => rfl
  have start : Lq (1 + n) 0 (1 + q) g (v1, St_0, Rd_0, p3, (fun _ => (0 : Int32))) := ⟨c2, ok_start.z, ⟨z0, z0⟩, c4, c5⟩
  have run : ∀ k e m g w, k + e = 7 → m ≤ 13 * e → g ≤ 2800 + 30 * e → Lq (1 + n) m (1 + q) g w → ∃ e1, lp (b_law xs L (nI (1 + n))) (k + 1) (nI e, w) = some e1 := by
    intro k
    induction k with
    | zero =>
      intro e m g w he hm hg a
      have : e = 7 := by omega
      subst this
      have e7 : (7:Int32) ≤ nI 7 := by decide
      refine ⟨w, lp_out ?_⟩
      unfold b_law
      rw [if_pos e7]
    | succ k ih =>
      intro e m g w he hm hg a
      obtain ⟨w', m', g', e2, k1, k2, a'⟩ := law_turn (xs := xs) (e := e) hL (by omega) (by omega) hm hg a
      obtain ⟨e1, h1⟩ := ih (e + 1) m' g' w' (by omega) k1 k2 a'
      exact ⟨e1, by rw [lp_in e2]; exact h1⟩
  obtain ⟨e2, h2⟩ := run 7 0 0 g _ rfl (by omega) (by omega) start
  exact ⟨_, e2, e1, h2⟩
