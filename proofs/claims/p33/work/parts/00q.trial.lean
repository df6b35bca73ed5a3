/-! the law's trial of a least bid -/
theorem winner_ok {c m q g : Nat} {v : StV} {w : Int32} {k : Nat} {v' : StV} (h : Ok c m q g v) (s : Step c m q g v w k v') {t : StV} (zt : Z8 t) {r : RdV} (hr : Rz c r) : ∃ r', f_X5_winner v t r = some (w, (v', r')) ∧ Rz c r' ∧ Z8 v' := by
  obtain ⟨r', h1, -, h2, -⟩ := s.2.2.2.2.2.2.2.2.2 r hr
  refine ⟨r', ?_, h1, s.1.z⟩
  simp only [f_X5_winner, copy_is h.z zt, bd_s, h2]
section LB
variable {c m q B g : Nat} {P : Nat → Nat} {gu : Nat → Int32} {b : Nat → Nat} {aw ta ins : Nat → Int32} {F O G H S D : Nat → Nat}
variable {p : PaV} {l : List StV}
theorem win_bid (h : OkW c m q B g P gu b aw ta ins F O G H S D) (h1 : 1 ≤ c) (hm8 : m ≤ 98) {i k n : Nat} (hic : i < c) {pd' mg' : Nat → Int32} {P1 F1 O1 S1 D1 : Nat → Nat} (hk : k ≤ 14) (hm : ∀ j, mg' j = 0 ∨ mg' j = 1) (hpay : ∀ r, Rz c r → ∀ b', f_X1_payIn r (nI c, nI m, nI q, nI B, nI g, nf P, gu, nf b', aw, ta, ins, nf F, nf O, nf G, nf H, nf S, nf D) = some ((), ((pd', mg', nI (q * k)), (nI c, nI m, nI q, nI B, nI g, nf P1, gu, nf b', aw, ta, ins, nf F1, nf O1, nf G, nf H, nf S1, nf D1)))) (hn : n ≤ 999) (ok : OkW c m q B g P gu (un b i n) aw ta ins F O G H S D) {t : StV} (zt : Z8 t) {r : RdV} (hr : Rz c r) : ∃ w t' r', f_X5_winner (nI c, nI m, nI q, nI B, nI g, nf P, gu, nf (un b i n), aw, ta, ins, nf F, nf O, nf G, nf H, nf S, nf D) t r = some (w, (t', r')) ∧ Rz c r' ∧ Z8 t' ∧ (w = nI i ↔ Win (cnT ins mg' ta) (q * k) m c b i n) := by
  have okv : Ok c m q g (nI c, nI m, nI q, nI B, nI g, nf P, gu, nf (un b i n), aw, ta, ins, nf F, nf O, nf G, nf H, nf S, nf D) := ⟨B, P, gu, _, aw, ta, ins, F, O, G, H, S, D, rfl, ok⟩
  obtain ⟨w, k', v', st⟩ := month_step okv h1 hm8
  obtain ⟨r', e, zr, z8⟩ := winner_ok okv st zt hr
  refine ⟨w, v', r', e, zr, z8, ?_⟩
  obtain ⟨r1, -, -, e2, -⟩ := st.2.2.2.2.2.2.2.2.2 r hr
  obtain ⟨⟨g1, g2, g3, g4, g5⟩, g6, hg, ha, ht, hi, hb, -⟩ := ok
  have tq : q * k ≤ 20 * 14 := Nat.mul_le_mul g2 hk
  have tk := taker_x (c := c) (pd := pd') (mg := mg') (pn := nI (q * k)) (co := nI q) (bo := nI B) (gv := nI g) (pu := nf P1) (gu := gu) (bi := nf (un b i n)) (aw := aw) (pf := nf F1) (po := nf O1) (go := nf G) (sh := nf H) (ms := nf S1) (de := nf D1) (by omega) hi ht (fun j _ => hm j) (mo := nI m) (m := m) rfl (by omega)
  rw [cbd_f (by omega) hb] at tk
  have := pass_w (hpay r hr (un b i n)) tk e2
  rw [this]
  exact Iff.rfl
theorem lawLB (h : OkW c m q B g P gu b aw ta ins F O G H S D) (h1 : 1 ≤ c) (hm8 : m ≤ 98) {i : Nat} (hic : i < c) (tp : Top p l) (hl : l.length ≤ 12) {t : StV} (zt : Z8 t) {r : RdV} (hr : Rz c r) : ∃ t' r' p', f_L_leastBid (nI c, nI m, nI q, nI B, nI g, nf P, gu, nf b, aw, ta, ins, nf F, nf O, nf G, nf H, nf S, nf D) t r p (nI i) = some ((1:Int32), ((nI c, nI m, nI q, nI B, nI g, nf P, gu, nf b, aw, ta, ins, nf F, nf O, nf G, nf H, nf S, nf D), t', r', p')) ∧ Z8 t' ∧ Rz c r' ∧ Top p' l := by
  obtain ⟨pd', mg', k, P1, F1, O1, S1, D1, hk, hmg, zp, zm, hz8, hpay⟩ := pay_all h
  obtain ⟨x, t1, e1, z1, hx⟩ := leastBid_ok h h1 hic hk hmg zp zm hz8 hpay zt hr
  have r1 : Rz c (pd', mg', nI (q * k)) := ⟨zp, zm⟩
  have h0 := h
  obtain ⟨⟨g1, g2, g3, g4, g5⟩, g6, hg, ha, ht, hi, hb, hF, hD, hDb, zP, zgu, zb, zr⟩ := h
  have hc : St_count (nI c, nI m, nI q, nI B, nI g, nf P, gu, nf b, aw, ta, ins, nf F, nf O, nf G, nf H, nf S, nf D) = nI c := rfl
  have m5 : f_X5_member (nI c, nI m, nI q, nI B, nI g, nf P, gu, nf b, aw, ta, ins, nf F, nf O, nf G, nf H, nf S, nf D) (nI i) (5:Int32) = some (ins i, ()) := mem_5 (n := c) hc hic (by omega) hi
  have m4 : f_X5_member (nI c, nI m, nI q, nI B, nI g, nf P, gu, nf b, aw, ta, ins, nf F, nf O, nf G, nf H, nf S, nf D) (nI i) (4:Int32) = some (ta i, ()) := mem_4 (n := c) hc hic (by omega) ht
  have m2 : f_X5_member (nI c, nI m, nI q, nI B, nI g, nf P, gu, nf b, aw, ta, ins, nf F, nf O, nf G, nf H, nf S, nf D) (nI i) (2:Int32) = some (nI (b i), ()) := mem_2 (n := c) hc hic (by omega)
  have hw9 : ∀ s : Nat, s ≤ 14 → ¬ nI s < (0:Int32) := fun s hs z => (nI_nn (by omega)).mp z
  -- a bid, who takes it, undone
  have trial : ∀ (n : Nat) (t2 : StV) (r2 : RdV) (p2 : PaV), n ≤ 999 → ins i = 1 → ta i = 0 → Z8 t2 → Rz c r2 → Top p2 l → ∃ w p3 t3 r3 s p4, f_X5_bid (nI c, nI m, nI q, nI B, nI g, nf P, gu, nf b, aw, ta, ins, nf F, nf O, nf G, nf H, nf S, nf D) p2 (nI i) (nI n) = some (nI (b i), ((nI c, nI m, nI q, nI B, nI g, nf P, gu, nf (un b i n), aw, ta, ins, nf F, nf O, nf G, nf H, nf S, nf D), p3)) ∧ f_X5_winner (nI c, nI m, nI q, nI B, nI g, nf P, gu, nf (un b i n), aw, ta, ins, nf F, nf O, nf G, nf H, nf S, nf D) t2 r2 = some (w, (t3, r3)) ∧ (w = nI i ↔ Win (cnT ins mg' ta) (q * k) m c b i n) ∧ Z8 t3 ∧ Rz c r3 ∧ s ≤ 14 ∧ f_X5_undo (nI c, nI m, nI q, nI B, nI g, nf P, gu, nf (un b i n), aw, ta, ins, nf F, nf O, nf G, nf H, nf S, nf D) p3 = some (nI s, ((nI c, nI m, nI q, nI B, nI g, nf P, gu, nf b, aw, ta, ins, nf F, nf O, nf G, nf H, nf S, nf D), p4)) ∧ Top p4 l := by
    intro n t2 r2 p2 hn i1 i2 z2 hr2 tp2
    obtain ⟨p3, b1, b2, b3⟩ := bid_ok h0 tp2 (by omega) hic hn i1 i2
    obtain ⟨w, t3, r3, c1, c2, c3, c4⟩ := win_bid h0 h1 hm8 hic hk hmg hpay hn b3 z2 hr2
    obtain ⟨s, p4, d1, d2, d3⟩ := b2.undo (w := (nI c, nI m, nI q, nI B, nI g, nf P, gu, nf (un b i n), aw, ta, ins, nf F, nf O, nf G, nf H, nf S, nf D)) (Ok.z ⟨B, P, gu, _, aw, ta, ins, F, O, G, H, S, D, rfl, b3⟩)
    exact ⟨w, p3, t3, r3, s, p4, b1, c1, c4, c3, c2, d1, d2, d3⟩
  have none9 : ∀ {y : Nat}, y ≤ 999 → ¬ nI y = (-99999:Int32) := fun {y} hy q => (nI_neg (by omega)).mp q
  rcases hi i with i1 | i1
  · -- outside
    rcases hx with ⟨rfl, -⟩ | ⟨n, hn, rfl, hw, -⟩
    · refine ⟨t1, (pd', mg', nI (q * k)), p, ?_, z1, r1, tp⟩
      rw [f_L_leastBid, bd_r e1, bd_r m5, if_neg (show ¬ ins i = 1 from fun z => absurd (i1.symm.trans z) (by decide)), if_pos rfl, if_pos rfl]
    · have := hw.can h1 (by omega) hic
      rw [cnT_no (Or.inl i1)] at this
      cases this
  · rcases ht i with i2 | i2
    · rcases hx with ⟨rfl, hw⟩ | ⟨n, hn, rfl, hw, hl9⟩
      · obtain ⟨w, p3, t3, r3, s, p4, b1, c1, c2, c3, c4, s1, d1, d2⟩ := trial 999 t1 _ p (by omega) i1 i2 z1 r1 tp
        have b1 : f_X5_bid (nI c, nI m, nI q, nI B, nI g, nf P, gu, nf b, aw, ta, ins, nf F, nf O, nf G, nf H, nf S, nf D) p (nI i) (999:Int32) = _ := b1
        have nw : ¬ w = nI i := fun z => hw (c2.mp z)
        refine ⟨t3, r3, p4, ?_, c3, c4, d2⟩
        rw [f_L_leastBid, bd_r e1, bd_r m5, if_pos i1, bd_r m4, if_pos i2, if_neg (show ¬ (1:Int32) = 0 by decide), bd_r m2, if_pos rfl, bd_r b1, if_pos rfl, bd_r c1, if_neg nw, bd_r d1, if_neg (hw9 s s1)]
      · obtain ⟨w, p3, t3, r3, s, p4, b1, c1, c2, c3, c4, s1, d1, d2⟩ := trial n t1 _ p hn i1 i2 z1 r1 tp
        have yw : w = nI i := c2.mpr hw
        subst yw
        by_cases n0 : n = 0
        · subst n0
          have z00 : nI 0 = (0:Int32) := rfl
          refine ⟨t3, r3, p4, ?_, c3, c4, d2⟩
          rw [f_L_leastBid, bd_r e1, bd_r m5, if_pos i1, bd_r m4, if_pos i2, if_neg (show ¬ (1:Int32) = 0 by decide), bd_r m2, if_neg (none9 hn), bd_r b1, if_pos rfl, bd_r c1, if_pos rfl, bd_r d1, if_neg (hw9 s s1), if_neg (show ¬ (1:Int32) = 0 by decide), if_pos z00]
        · have nz : ¬ nI n = (0:Int32) := fun z => n0 ((eq0 (by omega)).mp z)
          rcases hl9 with q0 | hl9
          · exact absurd q0 n0
          · obtain ⟨w, p5, t5, r5, s5, p6, b5, c5, c6, c7, c8, s6, d5, d6⟩ := trial (n - 1) t3 r3 p4 (by omega) i1 i2 c3 c4 d2
            have nw : ¬ w = nI i := fun z => hl9 (c6.mp z)
            have n1 : nI n - (1:Int32) = nI (n - 1) := nI_sub (b := 1) (by omega)
            refine ⟨t5, r5, p6, ?_, c7, c8, d6⟩
            rw [← n1] at b5
            rw [f_L_leastBid, bd_r e1, bd_r m5, if_pos i1, bd_r m4, if_pos i2, if_neg (show ¬ (1:Int32) = 0 by decide), bd_r m2, if_neg (none9 hn), bd_r b1, if_pos rfl, bd_r c1, if_pos rfl, bd_r d1, if_neg (hw9 s s1), if_neg (show ¬ (1:Int32) = 0 by decide), if_neg nz, bd_r b5, if_pos rfl, bd_r c5, if_neg nw, bd_r d5, if_neg (hw9 s5 s6)]
    · rcases hx with ⟨rfl, -⟩ | ⟨n, hn, rfl, hw, -⟩
      · refine ⟨t1, (pd', mg', nI (q * k)), p, ?_, z1, r1, tp⟩
        rw [f_L_leastBid, bd_r e1, bd_r m5, if_pos i1, bd_r m4, if_neg (show ¬ ta i = 0 from fun z => absurd (i2.symm.trans z) (by decide)), if_pos rfl, if_pos rfl]
      · have := hw.can h1 (by omega) hic
        rw [cnT_no (Or.inr (Or.inr i2))] at this
        cases this
end LB
