/-! the end, as the law tries it -/
def fin (v : StV) : List StV → StV
  | [] => v
  | x :: l => fin x l
theorem fin_cons (v x : StV) (l : List StV) : fin v (x :: l) = fin x l := (fun (_ : True) => rfl) trivial
theorem pos_nI {k : Nat} (hk : k ≤ 1000) : (0:Int32) < nI k ↔ 0 < k := nI_lti (a := 0) (by omega) (by omega)
theorem lawEnd {c m q g i : Nat} {v : StV} (ok : Ok c m q g v) (h1 : 1 ≤ c) (hm : m ≤ 86) (hic : i < c) (pb : PB c v) {t : StV} (zt : Z8 t) {r : RdV} (hr : Rz c r) {p : PaV} (tp : Top p []) : ∃ v' t' r' p' m', f_L_inTheEnd v t r p (nI i) = some ((1:Int32), (v', t', r', p')) ∧ Z8 t' ∧ Rz c r' ∧ Top p' [] ∧ Ok c m' q g v' ∧ m' ≤ m + 12 ∧ PB c v' := by
  obtain ⟨u, r1, e1, en, zu, zr1⟩ := end_ok (i := i) ok h1 hic zt hr
  have c8 : c ≤ 7 := ok.cnt.2.2.2.2.2.2.2.1
  -- the months
  have months : One (lp (b_L_inTheEnd_8 u (nI i) (St_purse u i)) FU ((0:Int32), v, r1, p)) (fun e => ∃ k v2 r2 p2 l, e = (nI k, v2, r2, p2) ∧ k ≤ 12 ∧ Ok c (m + k) q g v2 ∧ Rz c r2 ∧ Top p2 l ∧ l.length = k ∧ fin v2 l = v ∧ PB c v2 ∧ (k = 12 ∨ (¬ Wai c v2 ∧ u = v2))) := by
    refine lp_one (fun n s => ∃ k v2 r2 p2 l, s = (nI k, v2, r2, p2) ∧ k ≤ 12 ∧ n = 12 - k ∧ Ok c (m + k) q g v2 ∧ Rz c r2 ∧ Top p2 l ∧ l.length = k ∧ fin v2 l = v ∧ PB c v2 ∧ Enq c q g (20 - k) (m + k) v2 u) _ ?_ (n := 12) ⟨0, v, r1, p, [], rfl, by omega, by omega, ok, zr1, tp, rfl, rfl, pb, en⟩ (FU_gt (by omega))
    rintro n s ⟨k, v2, r2, p2, l, rfl, h2, rfl, h3, h4, h5, h6, h7, h8, h9⟩ J hJ
    by_cases e : k = 12
    · subst e
      have e12 : (12:Int32) ≤ nI 12 := by decide
      simp only [b_L_inTheEnd_8, e12, ↓reduceIte]
      exact ⟨12, v2, r2, p2, l, rfl, by omega, h3, h4, h5, h6, h7, h8, Or.inl rfl⟩
    · have n12 : ¬ (12:Int32) ≤ nI k := fun z => by have := (nI_lei (a := 12) (by omega) (by omega)).mp z; omega
      obtain ⟨kw, kw7, w1, w2⟩ := wai_ok h3
      have a6 : f_X5_about v2 (6:Int32) = some (nI kw, ()) := by
        simp (decide := true) only [f_X5_about, w1, bd_s, ↓reduceIte]
      have k20 : 20 - k = (20 - (k + 1)) + 1 := by omega
      rw [k20] at h9
      by_cases q0 : Wai c v2
      · have k0 : ¬ kw ≤ 0 := by have := w2.mpr q0; omega
        obtain ⟨j, hj, i1, -⟩ := id q0
        have may : May c (m + k) v2 := ⟨by omega, j, hj, i1⟩
        obtain ⟨hc, -, -, -, -, -, bi, -⟩ := h3.cnt
        obtain ⟨ki, k1, k2, k3, k4⟩ := sI_bo bi c
        have a1 : f_X5_about v2 (1:Int32) = some (nI ki, ()) := by rw [← k2]; exact ab_1 hc (by omega) bi
        have ki0 : ¬ ki ≤ 0 := fun z => by
          have := k3 (by omega) j hj
          rw [i1] at this
          exact absurd this (by decide)
        rcases h9 with ⟨z | z, -⟩ | ⟨-, -, w, k9, v3, st, h9⟩
        · exact absurd q0 z
        · exact absurd may z
        · obtain ⟨r3, p3, e3, zr3, tp3⟩ := month_ok h3 st may h4 h5 (by omega)
          simp (disch := omega) only [b_L_inTheEnd_8, n12, a6, a1, ge0, k0, ki0, e3, bd_s, lt_e, nI_s1, ↓reduceIte]
          exact hJ _ _ (by omega) ⟨k + 1, v3, r3, p3, v2 :: l, rfl, by omega, rfl, st.1, zr3, tp3, by simp only [List.length_cons, h6], by rw [fin_cons]; exact h7, fun j _ _ _ => by rw [st.2.2.2.2.1], h9⟩
      · have k0 : kw ≤ 0 := by
          have : ¬ 0 < kw := fun z => q0 (w2.mp z)
          omega
        simp (disch := omega) only [b_L_inTheEnd_8, n12, a6, ge0, k0, bd_s, ↓reduceIte]
        refine ⟨k, v2, r2, p2, l, rfl, h2, h3, h4, h5, h6, h7, h8, Or.inr ⟨q0, ?_⟩⟩
        rcases h9 with ⟨-, z⟩ | ⟨z, -⟩
        · exact z
        · exact absurd z q0
  obtain ⟨e, e2, k, v2, r2, p2, l, rfl, k12, ok2, zr2, tp2, hl, hf, pb2, hk⟩ := on_get months
  obtain ⟨u2, r3, e3, en2, zu2, zr3⟩ := end_ok (i := i) ok2 h1 hic zu zr2
  obtain ⟨kw, kw7, w1, w2⟩ := wai_ok ok2
  have a6 : f_X5_about v2 (6:Int32) = some (nI kw, ()) := by
    simp (decide := true) only [f_X5_about, w1, bd_s, ↓reduceIte]
  have m0 : f_X5_member v2 (nI i) (0:Int32) = some (St_purse v2 i, ()) := mem_0 ok2.cnt.1 hic (by omega)
  -- undone, or not
  have undo1 : ∀ (t9 : StV) (r9 : RdV), ∃ p4, lp (b_L_inTheEnd_80 t9 r9 (nI k)) FU ((1:Int32), (0:Int32), v2, p2) = some ((1:Int32), nI k, v, p4) ∧ Top p4 [] := by
    intro t9 r9
    obtain ⟨e, e4, p4, rfl, tp4⟩ := on_get (lp_one (b := b_L_inTheEnd_80 t9 r9 (nI k)) (fun n s => ∃ j v4 p4 l4, s = ((1:Int32), nI j, v4, p4) ∧ j ≤ k ∧ n = k - j ∧ Z8 v4 ∧ Top p4 l4 ∧ l4.length = k - j ∧ fin v4 l4 = v) (fun e => ∃ p4, e = ((1:Int32), nI k, v, p4) ∧ Top p4 []) (by
      rintro n s ⟨j, v4, p4, l4, rfl, h2, rfl, h3, h4, h5, h6⟩ J hJ
      by_cases e : j = k
      · subst e
        have : l4 = [] := List.length_eq_zero_iff.mp (by omega)
        subst this
        simp (disch := omega) only [b_L_inTheEnd_80, nI_lei, Nat.le_refl, ↓reduceIte]
        have h6 : v4 = v := h6
        exact ⟨p4, by rw [h6], h4⟩
      · have nj : ¬ k ≤ j := by omega
        cases l4 with
        | nil => simp only [List.length_nil] at h5; omega
        | cons x l4 =>
          obtain ⟨s, p5, s1, e5, tp5⟩ := h4.undo h3
          have ns : ¬ nI s < (0:Int32) := fun z => (nI_nn (by omega)).mp z
          have zx : Z8 x := by
            obtain ⟨s, y, -, -, -, -, -, hz, hx⟩ := h4
            have := hx 0 x rfl
            rw [← this]; exact hz _
          simp only [List.length_cons] at h5
          simp (disch := omega) only [b_L_inTheEnd_80, nI_lei, nj, o_ne, e5, bd_s, ns, lt_e, nI_s1, ↓reduceIte]
          exact hJ _ _ (by omega) ⟨j + 1, x, p5, l4, rfl, by omega, rfl, zx, tp5, by omega, h6⟩) (n := k) (fu := FU) (s := ((1:Int32), (0:Int32), v2, p2)) ⟨0, v2, p2, l, rfl, by omega, by omega, ok2.z, tp2, by omega, hf⟩ (FU_gt (by omega)))
    exact ⟨p4, e4, tp4⟩
  have undo0 : ∀ (t9 : StV) (r9 : RdV), 0 < k → lp (b_L_inTheEnd_80 t9 r9 (nI k)) FU ((0:Int32), (0:Int32), v2, p2) = some ((0:Int32), (0:Int32), v2, p2) := by
    intro t9 r9 hk0
    have n0 : ¬ nI k ≤ (0:Int32) := fun z => by have := (ge0 (by omega)).mp z; omega
    refine lp_FU (n := 0 + 1) (by omega) (lp_out ?_)
    simp only [b_L_inTheEnd_80, n0, ↓reduceIte]
  obtain ⟨p4, e4, tp4⟩ := undo1 u2 r3
  rcases hk with hk | ⟨hw, hu⟩
  · subst hk
    have e12 : nI 12 = (12:Int32) := rfl
    have e5 := undo0 u2 r3 (by omega)
    rw [e12] at e2 e4 e5
    by_cases c1 : St_purse u2 i = St_purse u i
    · by_cases c2 : 0 < kw
      · have c2' : (0:Int32) < nI kw := (pos_nI (by omega)).mpr c2
        refine ⟨v, u2, r3, p4, m, ?_, zu2, zr3, tp4, ok, by omega, pb⟩
        simp only [f_L_inTheEnd, e1, e2, e3, bd_s, c1, a6, c2', e4, o_ne, ↓reduceIte]
      · have c2' : ¬ (0:Int32) < nI kw := fun z => c2 ((pos_nI (by omega)).mp z)
        by_cases c3 : St_purse v2 i = St_purse u i
        · refine ⟨v, u2, r3, p4, m, ?_, zu2, zr3, tp4, ok, by omega, pb⟩
          simp only [f_L_inTheEnd, e1, e2, e3, bd_s, c1, a6, c2', m0, c3, e4, o_ne, ↓reduceIte]
        · refine ⟨v2, u2, r3, p2, m + 12, ?_, zu2, zr3, tp2.nil, ok2, by omega, pb2⟩
          simp only [f_L_inTheEnd, e1, e2, e3, bd_s, c1, a6, c2', m0, c3, e5, ↓reduceIte]
    · refine ⟨v2, u2, r3, p2, m + 12, ?_, zu2, zr3, tp2.nil, ok2, by omega, pb2⟩
      simp only [f_L_inTheEnd, e1, e2, e3, bd_s, c1, e5, ↓reduceIte]
  · subst hu
    have c2 : ¬ (0:Int32) < nI kw := fun z => hw (w2.mp ((pos_nI (by omega)).mp z))
    have hu2 : u2 = u := by
      rcases en2 with ⟨-, z⟩ | ⟨z, -⟩
      · exact z
      · exact absurd z hw
    subst hu2
    refine ⟨v, u2, r3, p4, m, ?_, zu2, zr3, tp4, ok, by omega, pb⟩
    simp only [f_L_inTheEnd, e1, e2, e3, bd_s, a6, c2, m0, e4, o_ne, ↓reduceIte]
