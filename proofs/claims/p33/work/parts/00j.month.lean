/-! good states; a month from one to the next -/
def OkW (c m q B g : Nat) (P : Nat → Nat) (gu : Nat → Int32) (b : Nat → Nat) (aw ta ins : Nat → Int32) (F O G H S D : Nat → Nat) : Prop :=
  (1 ≤ q ∧ q ≤ 20 ∧ c ≤ 7 ∧ m ≤ 99 ∧ g ≤ 9000) ∧ B + su c P = g ∧ Gu c gu ∧ Bo aw ∧ Bo ta ∧ Bo ins ∧ (∀ j, b j ≤ 999) ∧ (∀ j, F j ≤ 20 * m) ∧ (∀ k, D k ≤ 20 * m) ∧ Db c D ∧
  (Zn c P ∧ Zi c gu ∧ Zn c b ∧ Zi c aw ∧ Zi c ta ∧ Zi c ins ∧ Zn c F ∧ Zn c O ∧ Zn c G ∧ Zn c H ∧ Zn c S)
def Ok (c m q g : Nat) (v : StV) : Prop := ∃ (B : Nat) (P : Nat → Nat) (gu : Nat → Int32) (b : Nat → Nat) (aw ta ins : Nat → Int32) (F O G H S D : Nat → Nat), v = (nI c, nI m, nI q, nI B, nI g, nf P, gu, nf b, aw, ta, ins, nf F, nf O, nf G, nf H, nf S, nf D) ∧ OkW c m q B g P gu b aw ta ins F O G H S D
/-- the sum of a row's first ones, as the machine has it -/
def sI : Nat → (Nat → Int32) → Int32
  | 0, _ => 0
  | n + 1, f => sI n f + f n
theorem sI_nf (c : Nat) (f : Nat → Nat) : sI c (nf f) = nI (su c f) := by
  induction c with
  | zero => rfl
  | succ n ih => unfold sI su; rw [ih, nf_at, q_add]
/-- no bid of those who may bid -/
def PB (c : Nat) (v : StV) : Prop := ∀ j, j < c → St_inside v j = 1 → St_taken v j = 0 → St_bid v j = 0
/-- a round that holds nothing behind the members -/
def Rz (c : Nat) (r : RdV) : Prop := Zi c r.1 ∧ Zi c r.2.1
def Step (c m q g : Nat) (v : StV) (w : Int32) (k : Nat) (v' : StV) : Prop :=
  Ok c (m + 1) q g v' ∧ k ≤ 14 ∧ sI c (St_paidForItself v') + sI c (St_paidForOthers v') = sI c (St_paidForItself v) + sI c (St_paidForOthers v) + nI (q * k) ∧
  (∃ d, d ≤ 7 ∧ sI c (St_misses v') = sI c (St_misses v) + nI d) ∧ St_bid v' = (fun _ => 0) ∧ St_away v' = (fun _ => 0) ∧ St_guarantor v' = St_guarantor v ∧ ((∃ j, j < c ∧ St_inside v j = 1) ∨ (k = 0 ∧ w = (-99999:Int32))) ∧
  ((w = (-99999:Int32) ∧ St_box v' = St_box v + nI (q * k)) ∨ (∃ W x, W < c ∧ w = nI W ∧ St_taken v' W = 1 ∧ St_gotOfPot v' W = nI x ∧ x ≤ q * k ∧ q * k ≤ 2 * x)) ∧
  ∀ r, Rz c r → ∃ r', Rz c r' ∧ Rd_pence r' = nI (q * k) ∧ f_X1_pass r v = some (w, (r', v')) ∧ ∃ v1, f_X1_payIn r v = some ((), (r', v1))
section MONTH
variable {c m q B g : Nat} {P : Nat → Nat} {gu : Nat → Int32} {b : Nat → Nat} {aw ta ins : Nat → Int32} {F O G H S D : Nat → Nat}
variable {pd mg : Nat → Int32} {pn : Int32}
theorem OkW.P9 (h : OkW c m q B g P gu b aw ta ins F O G H S D) : ∀ j, P j ≤ 9000 := fun j => by
  obtain ⟨⟨h1, h2, h3, h4, h5⟩, h6, -, -, -, -, -, -, -, -, zP, -⟩ := h
  by_cases hj : j < c
  · have := su_ge (f := P) hj; omega
  · rw [zP j (by omega)]; omega
theorem takerW {t : Nat} (h : OkW c m q B g P gu b aw ta ins F O G H S D) (hm : ∀ j, j < c → (mg j = 0 ∨ mg j = 1)) (ht : t ≤ 1000) : f_X1_taker (pd, mg, nI t) (nI c, nI m, nI q, nI B, nI g, nf P, gu, nf b, aw, ta, ins, nf F, nf O, nf G, nf H, nf S, nf D) = some (tkS (cnT ins mg ta) (nf (kb t b)) (m % c) c c, ()) := by
  obtain ⟨⟨h1, h2, h3, h4, h5⟩, h6, h7, h8, h9, h10, h11, -⟩ := h
  rw [taker_x (by omega) h10 h9 hm rfl (by omega), cbd_f ht h11]
theorem month_go (h : OkW c m q B g P gu b aw ta ins F O G H S D) (h1 : 1 ≤ c) (hm : m ≤ 98) (zp : Zi c pd) (zm : Zi c mg) : ∃ (w : Int32) (pd' mg' : Nat → Int32) (k d B' : Nat) (P' : Nat → Nat) (ta' : Nat → Int32) (F' O' G' H' S' D' : Nat → Nat) (v1 : StV), f_X1_pass (pd, mg, pn) (nI c, nI m, nI q, nI B, nI g, nf P, gu, nf b, aw, ta, ins, nf F, nf O, nf G, nf H, nf S, nf D) = some (w, ((pd', mg', nI (q * k)), (nI c, nI (m + 1), nI q, nI B', nI g, nf P', gu, nf (fun _ => 0), fun _ => 0, ta', ins, nf F', nf O', nf G', nf H', nf S', nf D'))) ∧
    f_X1_payIn (pd, mg, pn) (nI c, nI m, nI q, nI B, nI g, nf P, gu, nf b, aw, ta, ins, nf F, nf O, nf G, nf H, nf S, nf D) = some ((), ((pd', mg', nI (q * k)), v1)) ∧ OkW c (m + 1) q B' g P' gu (fun _ => 0) (fun _ => 0) ta' ins F' O' G' H' S' D' ∧ Zi c pd' ∧ Zi c mg' ∧ k ≤ 14 ∧ su c F' + su c O' = su c F + su c O + q * k ∧ su c S' = su c S + d ∧ d ≤ 7 ∧
    ((w = (-99999:Int32) ∧ B' = B + q * k) ∨ (∃ W x, W < c ∧ w = nI W ∧ ta' W = 1 ∧ G' W = x ∧ x ≤ q * k ∧ q * k ≤ 2 * x)) ∧ ((∃ j, j < c ∧ ins j = 1) ∨ (k = 0 ∧ w = (-99999:Int32))) := by
  have hP9 := h.P9
  have h0 := h
  obtain ⟨⟨g1, g2, g3, g4, g5⟩, g6, hg, ha, ht, hi, hb, hF, hD, hDb, zP, zgu, zb, za, zt, zi, zF, zO, zG, zH, zS⟩ := h
  obtain ⟨pd', mg', k, P1, F1, O1, S1, D1, d, a1, b1, b2, b3, b4, b5, b6, b7, b8, b9, b10, b11, b12, b13, b14⟩ := payIn (pd := pd) (mg := mg) (pn := pn) (m := m) (q := q) (B := B) (g := g) (b := b) (ta := ta) (F := F) (O := O) (G := G) (H := H) (S := S) (D := D) (by omega) hi ha hg hP9 g2 zp zm
  have tq : q * k ≤ 1000 := by
    have : q * k ≤ 20 * 14 := Nat.mul_le_mul g2 (by omega)
    omega
  have zP1 : Zn c P1 := fun j hj => by have := b6 j; have := zP j hj; omega
  have zF1 : Zn c F1 := fun j hj => by rw [(b8 j hj).1]; exact zF j hj
  have zO1 : Zn c O1 := fun j hj => by rw [(b8 j hj).2.1]; exact zO j hj
  have zS1 : Zn c S1 := fun j hj => by rw [(b8 j hj).2.2]; exact zS j hj
  have e2 := taker_x (c := c) (pd := pd') (mg := mg') (pn := nI (q * k)) (co := nI q) (bo := nI B) (gv := nI g) (pu := nf P1) (gu := gu) (bi := nf b) (aw := aw) (pf := nf F1) (po := nf O1) (go := nf G) (sh := nf H) (ms := nf S1) (de := nf D1) (by omega) hi ht (fun j _ => b11 j) (mo := nI m) (m := m) rfl (by omega)
  rw [cbd_f tq hb] at e2
  have fF : ∀ j, F1 j ≤ 20 * (m + 1) := fun j => by have := b7 j; have := hF j; omega
  have fD : ∀ k, D1 k ≤ 20 * (m + 1) := fun k => by have := b9 k; have := hD k; omega
  have zc0 : Zn c (fun _ => 0) := fun _ _ => rfl
  have zi0 : Zi c (fun _ => 0) := fun _ _ => rfl
  rcases tkS_is (can := cnT ins mg' ta) (cb := nf (kb (q * k) b)) (p := m % c) (c := c) (by omega) c with e | ⟨W, hW, hcan, e⟩
  · rw [e] at e2
    obtain ⟨x, e3, rfl⟩ := on_get (endM (v0 := (pd', mg', nI (q * k))) (w := (-99999:Int32)) (m := m) (q := q) (B := B + q * k) (g := g) (P := P1) (gu := gu) (b := b) (aw := aw) (ta := ta) (ins := ins) (F := F1) (O := O1) (G := G) (H := H) (S := S1) (D := D1) (by omega) zb za)
    have e3 : lp (b_X1_pass_47 (pd', mg', nI (q * k)) (-99999:Int32)) FU ((0:Int32), (nI c, nI m, nI q, nI (B + q * k), nI g, nf P1, gu, nf b, aw, ta, ins, nf F1, nf O1, nf G, nf H, nf S1, nf D1)) = _ := e3
    refine ⟨(-99999:Int32), pd', mg', k, d, B + q * k, P1, ta, F1, O1, G, H, S1, D1, _, ?_, a1, ⟨⟨g1, g2, g3, by omega, g5⟩, by omega, hg, fun _ => Or.inl rfl, ht, hi, fun _ => Nat.zero_le _, fF, fD, b10 hDb, zP1, zgu, zc0, zi0, zt, zi, zF1, zO1, zG, zH, zS1⟩, b12, b13, by omega, b3, b4, by omega, Or.inl ⟨rfl, rfl⟩, ?_⟩
    · simp only [f_X1_pass, a1, bd_s, e2, St_count, St_month, St_contribution, St_box, St_given, St_purse, St_guarantor, St_bid, St_away, St_taken, St_inside, St_paidForItself, St_paidForOthers, St_gotOfPot, St_shares, St_misses, St_debt, St_count_s, St_month_s, St_contribution_s, St_box_s, St_given_s, St_purse_s, St_guarantor_s, St_bid_s, St_away_s, St_taken_s, St_inside_s, St_paidForItself_s, St_paidForOthers_s, St_gotOfPot_s, St_shares_s, St_misses_s, St_debt_s, Rd_paid, Rd_missing, Rd_pence, Rd_paid_s, Rd_missing_s, Rd_pence_s, lt_e, q_add, nI_s1, e3, ↓reduceIte]
    · rcases b14 with q | q
      · exact Or.inr ⟨q, rfl⟩
      · exact Or.inl q
  · rw [e] at e2
    have nw : ¬ nI W = (-99999:Int32) := fun q => (nI_neg (by omega)).mp q
    obtain ⟨P2, H2, B2, s1, s2, s3⟩ := share (pd := pd') (mg := mg') (t := q * k) (w := W) (m := m) (q := q) (B := B) (g := g) (P := P1) (gu := gu) (b := b) (aw := aw) (ta := ta) (ins := ins) (F := F1) (O := O1) (G := G) (H := H) (S := S1) (D := D1) (by omega) hi (fun j _ => b11 j) hW tq hb
    obtain ⟨P3, D3, p1, p2, p3, p4⟩ := payOut (pd := pd') (mg := mg') (t := q * k) (w := W) (m := m) (q := q) (B := B2) (g := g) (P := P2) (gu := gu) (b := b) (aw := aw) (ta := ta) (ins := ins) (F := F1) (O := O1) (G := G) (H := H2) (S := S1) (D := D1) (by omega) hW tq hb (fun k => by have := fD k; omega) (b10 hDb)
    obtain ⟨x, e3, rfl⟩ := on_get (endM (v0 := (pd', mg', nI (q * k))) (w := nI W) (m := m) (q := q) (B := B2) (g := g) (P := P3) (gu := gu) (b := b) (aw := aw) (ta := upd ta W 1) (ins := ins) (F := F1) (O := O1) (G := un G W (q * k - kb (q * k) b W)) (H := H2) (S := S1) (D := D3) (by omega) zb za)
    have e3 : lp (b_X1_pass_47 (pd', mg', nI (q * k)) (nI W)) FU ((0:Int32), (nI c, nI m, nI q, nI B2, nI g, nf P3, gu, nf b, aw, upd ta W 1, ins, nf F1, nf O1, nf (un G W (q * k - kb (q * k) b W)), nf H2, nf S1, nf D3)) = _ := e3
    have hk := kb_half (q * k) b W
    refine ⟨nI W, pd', mg', k, d, B2, P3, upd ta W 1, F1, O1, un G W (q * k - kb (q * k) b W), H2, S1, D3, _, ?_, a1, ⟨⟨g1, g2, g3, by omega, g5⟩, by omega, hg, fun _ => Or.inl rfl, ht.upd (Or.inr rfl), hi, fun _ => Nat.zero_le _, fF, fun k => Nat.le_trans (p3 k) (fD k), fun k hk => b10 hDb k (fun z => hk (by have := p3 k; omega)), fun j hj => by rw [p4 j hj, (s3 j hj).1]; exact zP1 j hj, zgu, zc0, zi0, zt.upd hW, zi, zF1, zO1, zG.un hW, fun j hj => by rw [(s3 j hj).2]; exact zH j hj, zS1⟩, b12, b13, by omega, b3, b4, by omega, Or.inr ⟨W, _, hW, rfl, upd_same _ _ _, un_same _ _ _, by omega, by omega⟩, Or.inl ⟨W, hW, ?_⟩⟩
    · simp only [f_X1_pass, a1, bd_s, e2, if_neg nw, s1, p1, St_count, St_month, St_contribution, St_box, St_given, St_purse, St_guarantor, St_bid, St_away, St_taken, St_inside, St_paidForItself, St_paidForOthers, St_gotOfPot, St_shares, St_misses, St_debt, St_count_s, St_month_s, St_contribution_s, St_box_s, St_given_s, St_purse_s, St_guarantor_s, St_bid_s, St_away_s, St_taken_s, St_inside_s, St_paidForItself_s, St_paidForOthers_s, St_gotOfPot_s, St_shares_s, St_misses_s, St_debt_s, Rd_paid, Rd_missing, Rd_pence, Rd_paid_s, Rd_missing_s, Rd_pence_s, lt_e, nI_s1, e3]
    · unfold cnT at hcan
      simp only [Bool.and_eq_true, beq_iff_eq] at hcan
      exact hcan.1.1
end MONTH
theorem month_step {c m q g : Nat} {v : StV} (h : Ok c m q g v) (h1 : 1 ≤ c) (hm : m ≤ 98) : ∃ w k v', Step c m q g v w k v' := by
  obtain ⟨B, P, gu, b, aw, ta, ins, F, O, G, H, S, D, rfl, h⟩ := h
  have z0 : Zi c (fun _ => 0) := fun _ _ => rfl
  obtain ⟨w, pd', mg', k, d, B', P', ta', F', O', G', H', S', D', v1, e1, e2, ok, zp, zm, k1, k2, k3, k4, k5, k6⟩ := month_go (pn := 0) h h1 hm z0 z0
  refine ⟨w, k, _, ⟨B', P', gu, _, _, ta', ins, F', O', G', H', S', D', rfl, ok⟩, k1, ?_, ⟨d, k4, ?_⟩, ?_, rfl, rfl, k6, ?_, fun r hr => ?_⟩
  · show sI c (nf F') + sI c (nf O') = sI c (nf F) + sI c (nf O) + nI (q * k)
    rw [sI_nf, sI_nf, sI_nf, sI_nf, q_add, q_add, q_add, k2]
  · show sI c (nf S') = sI c (nf S) + nI d
    rw [sI_nf, sI_nf, q_add, k3]
  · rfl
  · rcases k5 with ⟨a, b⟩ | ⟨W, x, a1, a2, a3, a4, a5, a6⟩
    · refine Or.inl ⟨a, ?_⟩
      show nI B' = nI B + nI (q * k)
      rw [b, q_add]
    · refine Or.inr ⟨W, x, a1, a2, a3, ?_, a5, a6⟩
      show nf G' W = nI x
      rw [nf_at, a4]
  · obtain ⟨pd, mg, pn⟩ := r
    have hi := h.2.2.2.2.2.1
    have ha := h.2.2.2.1
    have hg := h.2.2.1
    have hc := h.1.2.2.1
    obtain ⟨rr, pu', pf', po', ms', de', f1, f2⟩ := payIn_same (pd := fun _ => 0) (mg := fun _ => 0) (pn := 0) (pd2 := pd) (mg2 := mg) (pn2 := pn) (bx := nf b) (mo := nI m) (co := nI q) (bo := nI B) (gv := nI g) (pu := nf P) (gu := gu) (bi := nf b) (aw := aw) (ta := ta) (ins := ins) (pf := nf F) (po := nf O) (go := nf G) (sh := nf H) (ms := nf S) (de := nf D) (by omega) hi ha hg z0 z0 hr.1 hr.2
    have e : f_X1_payIn (pd, mg, pn) (nI c, nI m, nI q, nI B, nI g, nf P, gu, nf b, aw, ta, ins, nf F, nf O, nf G, nf H, nf S, nf D) = f_X1_payIn (fun _ => 0, fun _ => 0, 0) (nI c, nI m, nI q, nI B, nI g, nf P, gu, nf b, aw, ta, ins, nf F, nf O, nf G, nf H, nf S, nf D) := f2.trans f1.symm
    refine ⟨(pd', mg', nI (q * k)), ⟨zp, zm⟩, rfl, ?_, v1, by rw [e]; exact e2⟩
    rw [← e1]
    simp only [f_X1_pass, e]
