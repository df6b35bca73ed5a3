/-! the least bid -/
theorem bd_inv {A B : Type} {o : Option A} {k : A → Option B} {r : B} (h : bd o k = some r) : ∃ a, o = some a ∧ k a = some r := by
  cases o with
  | none => cases h
  | some a => exact ⟨a, rfl, h⟩
theorem lp_in {S E : Type} {b : S → Option (S ⊕ E)} {n : Nat} {s s' : S} (h : b s = some (.inl s')) : lp b (n + 1) s = lp b n s' := by rw [lp, h]
theorem lp_out {S E : Type} {b : S → Option (S ⊕ E)} {n : Nat} {s : S} {e : E} (h : b s = some (.inr e)) : lp b (n + 1) s = some e := by rw [lp, h]
theorem pass_w {r r1 : RdV} {v v1 : StV} {w w' : Int32} {x : RdV × StV} (h1 : f_X1_payIn r v = some ((), (r1, v1))) (h2 : f_X1_taker r1 v1 = some (w, ())) (h : f_X1_pass r v = some (w', x)) : w' = w := by
  rw [f_X1_pass, h1, bd_s, h2, bd_s] at h
  by_cases q : w = (-99999:Int32)
  · rw [if_pos q, lt_e] at h
    obtain ⟨a, -, h⟩ := bd_inv h
    rw [lt_e] at h
    exact (congrArg Prod.fst (Option.some.inj h)).symm
  · rw [if_neg q] at h
    obtain ⟨a, -, h⟩ := bd_inv h
    obtain ⟨a, -, h⟩ := bd_inv h
    obtain ⟨a, -, h⟩ := bd_inv h
    rw [lt_e] at h
    exact (congrArg Prod.fst (Option.some.inj h)).symm
section LEAST
variable {c m q B g : Nat} {P : Nat → Nat} {gu : Nat → Int32} {b : Nat → Nat} {aw ta ins : Nat → Int32} {F O G H S D : Nat → Nat}
variable {pd mg : Nat → Int32} {pn : Int32} {p : PaV} {l : List StV}
theorem Z8_W (hc : c ≤ 8) (ha : Bo aw) (ht : Bo ta) (hi : Bo ins) (hDb : Db c D) (zP : Zn c P) (zgu : Zi c gu) (zb : Zn c b) (za : Zi c aw) (zt : Zi c ta) (zi : Zi c ins) (zF : Zn c F) (zO : Zn c O) (zG : Zn c G) (zH : Zn c H) (zS : Zn c S) : Z8 (nI c, nI m, nI q, nI B, nI g, nf P, gu, nf b, aw, ta, ins, nf F, nf O, nf G, nf H, nf S, nf D) := by
  have n8 : ∀ {f : Nat → Nat}, Zn c f → Zi 8 (nf f) := fun {f} h j hj => by rw [nf_at, h j (by omega)]; rfl
  refine ⟨⟨n8 zP, zgu.up (by omega), n8 zb, za.up (by omega), zt.up (by omega), zi.up (by omega), n8 zF, n8 zO, n8 zG, n8 zH, n8 zS, fun k hk => ?_⟩, ha, ht, hi⟩
  show nf D k = 0
  have : D k = 0 := by
    by_cases e : D k = 0
    · exact e
    · obtain ⟨i, j, h1, h2, -, rfl⟩ := hDb k e
      omega
  rw [nf_at, this]
  rfl
theorem pay_all (h : OkW c m q B g P gu b aw ta ins F O G H S D) : ∃ (pd' mg' : Nat → Int32) (k : Nat) (P1 F1 O1 S1 D1 : Nat → Nat), k ≤ 14 ∧ (∀ j, mg' j = 0 ∨ mg' j = 1) ∧ Zi c pd' ∧ Zi c mg' ∧ (∀ b', Zn c b' → Z8 (nI c, nI m, nI q, nI B, nI g, nf P1, gu, nf b', aw, ta, ins, nf F1, nf O1, nf G, nf H, nf S1, nf D1)) ∧ ∀ r, Rz c r → ∀ b', f_X1_payIn r (nI c, nI m, nI q, nI B, nI g, nf P, gu, nf b', aw, ta, ins, nf F, nf O, nf G, nf H, nf S, nf D) = some ((), ((pd', mg', nI (q * k)), (nI c, nI m, nI q, nI B, nI g, nf P1, gu, nf b', aw, ta, ins, nf F1, nf O1, nf G, nf H, nf S1, nf D1))) := by
  have hP9 := h.P9
  obtain ⟨⟨g1, g2, g3, g4, g5⟩, g6, hg, ha, ht, hi, hb, hF, hD, hDb, zP, zgu, zb, za, zt, zi, zF, zO, zG, zH, zS⟩ := h
  have z0 : Zi c (fun _ => 0) := fun _ _ => rfl
  obtain ⟨pd', mg', k, P1, F1, O1, S1, D1, d, a1, b1, b2, b3, b4, b5, b6, b7, b8, b9, b10, b11, b12, b13, b14⟩ := payIn (pd := fun _ => 0) (mg := fun _ => 0) (pn := 0) (m := m) (q := q) (B := B) (g := g) (b := b) (ta := ta) (F := F) (O := O) (G := G) (H := H) (S := S) (D := D) (by omega) hi ha hg hP9 g2 z0 z0
  refine ⟨pd', mg', k, P1, F1, O1, S1, D1, by omega, b11, b12, b13, fun b' zb' => Z8_W (by omega) ha ht hi (b10 hDb) (fun j hj => by have := b6 j; have := zP j hj; omega) zgu zb' za zt zi (fun j hj => by rw [(b8 j hj).1]; exact zF j hj) (fun j hj => by rw [(b8 j hj).2.1]; exact zO j hj) zG zH (fun j hj => by rw [(b8 j hj).2.2]; exact zS j hj), fun r hr b' => ?_⟩
  obtain ⟨pd, mg, pn⟩ := r
  obtain ⟨rr, pu', pf', po', ms', de', f1, f2⟩ := payIn_same (pd := fun _ => 0) (mg := fun _ => 0) (pn := 0) (pd2 := pd) (mg2 := mg) (pn2 := pn) (bx := nf b') (mo := nI m) (co := nI q) (bo := nI B) (gv := nI g) (pu := nf P) (gu := gu) (bi := nf b) (aw := aw) (ta := ta) (ins := ins) (pf := nf F) (po := nf O) (go := nf G) (sh := nf H) (ms := nf S) (de := nf D) (by omega) hi ha hg z0 z0 hr.1 hr.2
  have e := Option.some.inj (f1.symm.trans a1)
  simp only [Prod.mk.injEq, true_and, and_true] at e
  obtain ⟨rfl, rfl, rfl, rfl, rfl, rfl⟩ := e
  exact f2
/-- who takes it when i bids n -/
def Win (can : Nat → Bool) (t m c : Nat) (b : Nat → Nat) (i n : Nat) : Prop := tkS can (nf (kb t (un b i n))) (m % c) c c = nI i
theorem Win.can {cn : Nat → Bool} {t i n : Nat} (h1 : 1 ≤ c) (hc : c ≤ 8) (hi : i < c) (h : Win cn t m c b i n) : cn i = true := by
  unfold Win at h
  rcases tkS_is (can := cn) (cb := nf (kb t (un b i n))) (p := m % c) (c := c) (by omega) c with e | ⟨j, hj, hcj, e⟩
  · rw [e] at h; exact absurd h.symm (fun z => (nI_neg (by omega)).mp z)
  · rw [e] at h
    rw [← (nI_inj (by omega) (by omega)).mp h]
    exact hcj
theorem kb_un {t i n : Nat} {j : Nat} (h : j ≠ i) : kb t (un b i n) j = kb t b j := by unfold kb; rw [un_ne h]
theorem kb_at {t i n : Nat} : kb t (un b i n) i = if t / 2 < n then t / 2 else n := by unfold kb; rw [un_same]
/-- the greatest of the others' bids -/
theorem great {t i : Nat} (hc : c ≤ 8) (hi : Bo ins) (ht : Bo ta) (hm : ∀ j, (mg j = 0 ∨ mg j = 1)) (ht0 : t ≤ 1000) (hb : ∀ j, b j ≤ 999) (hic : i < c) : ∃ x, f_X1_greatestBidBeside (pd, mg, nI t) (nI c, nI m, nI q, nI B, nI g, nf P, gu, nf b, aw, ta, ins, nf F, nf O, nf G, nf H, nf S, nf D) (nI i) = some (nI x, ()) ∧ (∀ j, j < c → j ≠ i → cnT ins mg ta j = true → kb t b j ≤ x) ∧ (x = 0 ∨ ∃ j, j < c ∧ j ≠ i ∧ cnT ins mg ta j = true ∧ kb t b j = x) := by
  have lo : One (lp (b_X1_greatestBidBeside_5 (pd, mg, nI t) (nI c, nI m, nI q, nI B, nI g, nf P, gu, nf b, aw, ta, ins, nf F, nf O, nf G, nf H, nf S, nf D) (nI i)) FU ((0:Int32), (0:Int32))) (fun e => ∃ x, e.1 = nI x ∧ (∀ j, j < c → j ≠ i → cnT ins mg ta j = true → kb t b j ≤ x) ∧ (x = 0 ∨ ∃ j, j < c ∧ j ≠ i ∧ cnT ins mg ta j = true ∧ kb t b j = x)) := by
    refine lp_one (fun n s => ∃ k x, s = (nI x, nI k) ∧ k ≤ c ∧ n = c - k ∧ x ≤ 1000 ∧ (∀ j, j < k → j ≠ i → cnT ins mg ta j = true → kb t b j ≤ x) ∧ (x = 0 ∨ ∃ j, j < c ∧ j ≠ i ∧ cnT ins mg ta j = true ∧ kb t b j = x)) _ ?_ (n := c) ⟨0, 0, rfl, by omega, by omega, by omega, fun j hj => by omega, Or.inl rfl⟩ (FU_gt (by omega))
    rintro n s ⟨k, x, rfl, h1, rfl, hx, h2, h3⟩ J hJ
    by_cases h : k = c
    · subst h
      simp (disch := omega) only [b_X1_greatestBidBeside_5, St_count, St_month, St_contribution, St_box, St_given, St_purse, St_guarantor, St_bid, St_away, St_taken, St_inside, St_paidForItself, St_paidForOthers, St_gotOfPot, St_shares, St_misses, St_debt, St_count_s, St_month_s, St_contribution_s, St_box_s, St_given_s, St_purse_s, St_guarantor_s, St_bid_s, St_away_s, St_taken_s, St_inside_s, St_paidForItself_s, St_paidForOthers_s, St_gotOfPot_s, St_shares_s, St_misses_s, St_debt_s, Rd_paid, Rd_missing, Rd_pence, Rd_paid_s, Rd_missing_s, Rd_pence_s, nI_lei, Nat.le_refl, ↓reduceIte]
      exact ⟨x, rfl, h2, h3⟩
    · have hk : k < c := by omega
      have nk : ¬ c ≤ k := by omega
      have keep : (k = i ∨ cnT ins mg ta k = false) → J (nI x, nI (k + 1)) := fun q => hJ _ _ (by omega) ⟨k + 1, x, rfl, by omega, rfl, hx, fun j hj hji hcj => by
        by_cases e : j = k
        · subst e
          rcases q with q | q
          · exact absurd q hji
          · rw [q] at hcj; cases hcj
        · exact h2 j (by omega) hji hcj, h3⟩
      by_cases hki : k = i
      · subst hki
        simp (disch := omega) only [b_X1_greatestBidBeside_5, St_count, St_month, St_contribution, St_box, St_given, St_purse, St_guarantor, St_bid, St_away, St_taken, St_inside, St_paidForItself, St_paidForOthers, St_gotOfPot, St_shares, St_misses, St_debt, St_count_s, St_month_s, St_contribution_s, St_box_s, St_given_s, St_purse_s, St_guarantor_s, St_bid_s, St_away_s, St_taken_s, St_inside_s, St_paidForItself_s, St_paidForOthers_s, St_gotOfPot_s, St_shares_s, St_misses_s, St_debt_s, Rd_paid, Rd_missing, Rd_pence, Rd_paid_s, Rd_missing_s, Rd_pence_s, lt_e, nI_s1, nI_lei, nk, ↓reduceIte]
        exact keep (Or.inl rfl)
      · have cx := can_x (pd := pd) (mg := mg) (pn := nI t) (mo := nI m) (co := nI q) (bo := nI B) (gv := nI g) (pu := nf P) (gu := gu) (bi := nf b) (aw := aw) (ta := ta) (ins := ins) (pf := nf F) (po := nf O) (go := nf G) (sh := nf H) (ms := nf S) (de := nf D) hk hc
        have bx := bid_x (pd := pd) (mg := mg) (pn := nI t) (mo := nI m) (co := nI q) (bo := nI B) (gv := nI g) (pu := nf P) (gu := gu) (bi := nf b) (aw := aw) (ta := ta) (ins := ins) (pf := nf F) (po := nf O) (go := nf G) (sh := nf H) (ms := nf S) (de := nf D) hk hc
        rw [cbd_kb ht0 hb] at bx
        have hh := kb_half t b k
        rcases hi k with e1 | e1
        · simp (disch := omega) only [b_X1_greatestBidBeside_5, St_count, St_month, St_contribution, St_box, St_given, St_purse, St_guarantor, St_bid, St_away, St_taken, St_inside, St_paidForItself, St_paidForOthers, St_gotOfPot, St_shares, St_misses, St_debt, St_count_s, St_month_s, St_contribution_s, St_box_s, St_given_s, St_purse_s, St_guarantor_s, St_bid_s, St_away_s, St_taken_s, St_inside_s, St_paidForItself_s, St_paidForOthers_s, St_gotOfPot_s, St_shares_s, St_misses_s, St_debt_s, Rd_paid, Rd_missing, Rd_pence, Rd_paid_s, Rd_missing_s, Rd_pence_s, lt_e, nI_s1, nI_lei, nI_inj, nk, hki, cx, e1, bd_s, ↓reduceIte]
          exact keep (Or.inr (cnT_no (Or.inl e1)))
        · rcases hm k with e2 | e2
          · rcases ht k with e3 | e3
            · by_cases q : x < kb t b k
              · simp (disch := omega) only [b_X1_greatestBidBeside_5, St_count, St_month, St_contribution, St_box, St_given, St_purse, St_guarantor, St_bid, St_away, St_taken, St_inside, St_paidForItself, St_paidForOthers, St_gotOfPot, St_shares, St_misses, St_debt, St_count_s, St_month_s, St_contribution_s, St_box_s, St_given_s, St_purse_s, St_guarantor_s, St_bid_s, St_away_s, St_taken_s, St_inside_s, St_paidForItself_s, St_paidForOthers_s, St_gotOfPot_s, St_shares_s, St_misses_s, St_debt_s, Rd_paid, Rd_missing, Rd_pence, Rd_paid_s, Rd_missing_s, Rd_pence_s, lt_e, nI_s1, nI_lei, nI_inj, nI_lti, nk, hki, cx, bx, q, e1, e2, e3, o_ne, bd_s, ↓reduceIte]
                exact hJ _ _ (by omega) ⟨k + 1, kb t b k, rfl, by omega, rfl, by omega, fun j hj hji hcj => by
                  by_cases e : j = k
                  · subst e; omega
                  · have := h2 j (by omega) hji hcj; omega, Or.inr ⟨k, hk, hki, cnT_yes e1 e2 e3, rfl⟩⟩
              · simp (disch := omega) only [b_X1_greatestBidBeside_5, St_count, St_month, St_contribution, St_box, St_given, St_purse, St_guarantor, St_bid, St_away, St_taken, St_inside, St_paidForItself, St_paidForOthers, St_gotOfPot, St_shares, St_misses, St_debt, St_count_s, St_month_s, St_contribution_s, St_box_s, St_given_s, St_purse_s, St_guarantor_s, St_bid_s, St_away_s, St_taken_s, St_inside_s, St_paidForItself_s, St_paidForOthers_s, St_gotOfPot_s, St_shares_s, St_misses_s, St_debt_s, Rd_paid, Rd_missing, Rd_pence, Rd_paid_s, Rd_missing_s, Rd_pence_s, lt_e, nI_s1, nI_lei, nI_inj, nI_lti, nk, hki, cx, bx, q, e1, e2, e3, o_ne, bd_s, ↓reduceIte]
                exact hJ _ _ (by omega) ⟨k + 1, x, rfl, by omega, rfl, hx, fun j hj hji hcj => by
                  by_cases e : j = k
                  · subst e; omega
                  · exact h2 j (by omega) hji hcj, h3⟩
            · simp (disch := omega) only [b_X1_greatestBidBeside_5, St_count, St_month, St_contribution, St_box, St_given, St_purse, St_guarantor, St_bid, St_away, St_taken, St_inside, St_paidForItself, St_paidForOthers, St_gotOfPot, St_shares, St_misses, St_debt, St_count_s, St_month_s, St_contribution_s, St_box_s, St_given_s, St_purse_s, St_guarantor_s, St_bid_s, St_away_s, St_taken_s, St_inside_s, St_paidForItself_s, St_paidForOthers_s, St_gotOfPot_s, St_shares_s, St_misses_s, St_debt_s, Rd_paid, Rd_missing, Rd_pence, Rd_paid_s, Rd_missing_s, Rd_pence_s, lt_e, nI_s1, nI_lei, nI_inj, nk, hki, cx, e1, e2, e3, o_ne, bd_s, ↓reduceIte]
              exact keep (Or.inr (cnT_no (Or.inr (Or.inr e3))))
          · simp (disch := omega) only [b_X1_greatestBidBeside_5, St_count, St_month, St_contribution, St_box, St_given, St_purse, St_guarantor, St_bid, St_away, St_taken, St_inside, St_paidForItself, St_paidForOthers, St_gotOfPot, St_shares, St_misses, St_debt, St_count_s, St_month_s, St_contribution_s, St_box_s, St_given_s, St_purse_s, St_guarantor_s, St_bid_s, St_away_s, St_taken_s, St_inside_s, St_paidForItself_s, St_paidForOthers_s, St_gotOfPot_s, St_shares_s, St_misses_s, St_debt_s, Rd_paid, Rd_missing, Rd_pence, Rd_paid_s, Rd_missing_s, Rd_pence_s, lt_e, nI_s1, nI_lei, nI_inj, nk, hki, cx, e1, e2, o_ne, bd_s, ↓reduceIte]
            exact keep (Or.inr (cnT_no (Or.inr (Or.inl e2))))
  obtain ⟨e, e1, x, e2, e3, e4⟩ := on_get lo
  exact ⟨x, by rw [f_X1_greatestBidBeside, e1, bd_s, e2], e3, e4⟩
theorem win_none {cn : Nat → Bool} {t i x : Nat} (h1 : 1 ≤ c) (hc : c ≤ 8) (hi : i < c) (ht0 : t ≤ 1000) (hmax : ∀ j, j < c → j ≠ i → cn j = true → kb t b j ≤ x) (n1 : ¬ Win cn t m c b i x) (n2 : ¬ Win cn t m c b i (x + 1)) : ¬ Win cn t m c b i 999 := by
  intro hw
  have hci := hw.can h1 hc hi
  by_cases q : x + 1 ≤ t / 2
  · refine n2 (tk_win hc hi hci fun j hj hji hcj => ?_)
    have e1 := hmax j hj hji hcj
    have hh := kb_half t b j
    rw [nf_at, nf_at, kb_un hji, kb_at, if_neg (by omega)]
    exact (nI_lti (by omega) (by omega)).mpr (by omega)
  · refine n1 ?_
    unfold Win at hw ⊢
    rw [← hw]
    refine tkS_cong (by omega) hc (fun j hj => ?_) c
    rw [nf_at, nf_at]
    by_cases e : j = i
    · subst e
      rw [kb_at, kb_at]
      congr 1
      split <;> split <;> omega
    · rw [kb_un e, kb_un e]
theorem win_less {cn : Nat → Bool} {t i x : Nat} (h1 : 1 ≤ c) (hc : c ≤ 8) (hi : i < c) (ht0 : t ≤ 1000) (hx : x = 0 ∨ ∃ j, j < c ∧ j ≠ i ∧ cn j = true ∧ kb t b j = x) : x = 0 ∨ ¬ Win cn t m c b i (x - 1) := by
  rcases hx with e | ⟨j, hj, hji, hcj, e⟩
  · exact Or.inl e
  · by_cases x0 : x = 0
    · exact Or.inl x0
    · refine Or.inr fun hw => ?_
      have hh := kb_half t b j
      have := (tk_max hc hw (by omega) hj hcj).2
      rw [nf_at, nf_at, kb_un hji, kb_at, e] at this
      have := (nI_lei (by omega) (by split <;> omega)).mp this
      split at this <;> omega
theorem leastBid_ok (h : OkW c m q B g P gu b aw ta ins F O G H S D) (h1 : 1 ≤ c) {i k : Nat} (hic : i < c) {pd' mg' : Nat → Int32} {P1 F1 O1 S1 D1 : Nat → Nat} (hk : k ≤ 14) (hm : ∀ j, mg' j = 0 ∨ mg' j = 1) (zp : Zi c pd') (zm : Zi c mg') (hz8 : ∀ b', Zn c b' → Z8 (nI c, nI m, nI q, nI B, nI g, nf P1, gu, nf b', aw, ta, ins, nf F1, nf O1, nf G, nf H, nf S1, nf D1)) (hpay : ∀ r, Rz c r → ∀ b', f_X1_payIn r (nI c, nI m, nI q, nI B, nI g, nf P, gu, nf b', aw, ta, ins, nf F, nf O, nf G, nf H, nf S, nf D) = some ((), ((pd', mg', nI (q * k)), (nI c, nI m, nI q, nI B, nI g, nf P1, gu, nf b', aw, ta, ins, nf F1, nf O1, nf G, nf H, nf S1, nf D1)))) {t : StV} (zt : Z8 t) {r : RdV} (hr : Rz c r) : ∃ x v2, f_X5_leastBid (nI c, nI m, nI q, nI B, nI g, nf P, gu, nf b, aw, ta, ins, nf F, nf O, nf G, nf H, nf S, nf D) t r (nI i) = some (x, (v2, (pd', mg', nI (q * k)))) ∧ Z8 v2 ∧ ((x = (-99999:Int32) ∧ ¬ Win (cnT ins mg' ta) (q * k) m c b i 999) ∨ ∃ n, n ≤ 999 ∧ x = nI n ∧ Win (cnT ins mg' ta) (q * k) m c b i n ∧ (n = 0 ∨ ¬ Win (cnT ins mg' ta) (q * k) m c b i (n - 1))) := by
  have z : Z8 (nI c, nI m, nI q, nI B, nI g, nf P, gu, nf b, aw, ta, ins, nf F, nf O, nf G, nf H, nf S, nf D) := Ok.z ⟨B, P, gu, b, aw, ta, ins, F, O, G, H, S, D, rfl, h⟩
  obtain ⟨⟨g1, g2, g3, g4, g5⟩, g6, hg, ha, ht, hi, hb, hF, hD, hDb, zP, zgu, zb, zr⟩ := h
  have tq : q * k ≤ 20 * 14 := Nat.mul_le_mul g2 hk
  have hc : St_count (nI c, nI m, nI q, nI B, nI g, nf P, gu, nf b, aw, ta, ins, nf F, nf O, nf G, nf H, nf S, nf D) = nI c := rfl
  have cp := copy_is z zt
  have py := hpay r hr b
  have cx := can_x (pd := pd') (mg := mg') (pn := nI (q * k)) (mo := nI m) (co := nI q) (bo := nI B) (gv := nI g) (pu := nf P1) (gu := gu) (bi := nf b) (aw := aw) (ta := ta) (ins := ins) (pf := nf F1) (po := nf O1) (go := nf G) (sh := nf H) (ms := nf S1) (de := nf D1) hic (by omega)
  have tk : ∀ n, n ≤ 999 → f_X1_taker (pd', mg', nI (q * k)) (nI c, nI m, nI q, nI B, nI g, nf P1, gu, nf (un b i n), aw, ta, ins, nf F1, nf O1, nf G, nf H, nf S1, nf D1) = some (tkS (cnT ins mg' ta) (nf (kb (q * k) (un b i n))) (m % c) c c, ()) := fun n hn => by
    have hb' : ∀ j, un b i n j ≤ 999 := fun j => by
      by_cases e : j = i
      · subst e; rw [un_same]; exact hn
      · rw [un_ne e]; exact hb j
    rw [taker_x (by omega) hi ht (fun j _ => hm j) rfl (by omega), cbd_f (by omega) hb']
  by_cases hcan : cnT ins mg' ta i = true
  · have e1 : ins i = 1 ∧ mg' i = 0 ∧ ta i = 0 := by
      unfold cnT at hcan
      simp only [Bool.and_eq_true, beq_iff_eq] at hcan
      exact ⟨hcan.1.1, hcan.1.2, hcan.2⟩
    obtain ⟨x, gx, gmax, gat⟩ := great (c := c) (m := m) (q := q) (B := B) (g := g) (P := P1) (gu := gu) (b := b) (aw := aw) (ta := ta) (ins := ins) (F := F1) (O := O1) (G := G) (H := H) (S := S1) (D := D1) (pd := pd') (mg := mg') (t := q * k) (i := i) (by omega) hi ht hm (by omega) hb hic
    have hx : x ≤ 140 := by
      rcases gat with e | ⟨j, -, -, -, e⟩
      · omega
      · have := kb_half (q * k) b j; omega
    have c0 : ¬ (1:Int32) = 0 := by decide
    have s0 : nI x + (1:Int32) = nI (x + 1) := nI_s1 x
    have s1 : nI (x + 1) + (1:Int32) = nI (x + 1 + 1) := nI_s1 (x + 1)
    have b0 : ∀ y, upd (nf b) i (nI y) = nf (un b i y) := fun y => nf_un b i y
    have b1 : upd (nf (un b i x)) i (nI (x + 1)) = nf (un b i (x + 1)) := by rw [nf_un, un_un]
    have k0 : ¬ nI (x + 1) < nI x := fun z => by have := (nI_lti (by omega) (by omega)).mp z; omega
    have k1 : ¬ nI (x + 1) < nI (x + 1) := fun z => by have := (nI_lti (by omega) (by omega)).mp z; omega
    have k2 : nI (x + 1) < nI (x + 1 + 1) := (nI_lti (by omega) (by omega)).mpr (by omega)
    have t0 := tk x (by omega)
    have t1 := tk (x + 1) (by omega)
    have g8 : ∀ {β : Type} {k : Option β}, gi (nI i) 8 k = k := fun {β k} => gi_ok (by omega) (by omega)
    have ci : (nI i).toNatClampNeg = i := nI_clamp (by omega)
    have head : ∀ R, f_X5_leastBid (nI c, nI m, nI q, nI B, nI g, nf P, gu, nf b, aw, ta, ins, nf F, nf O, nf G, nf H, nf S, nf D) t r (nI i) = R ↔ bd (lp (b_X5_leastBid_60 (nI c, nI m, nI q, nI B, nI g, nf P, gu, nf b, aw, ta, ins, nf F, nf O, nf G, nf H, nf S, nf D) (pd', mg', nI (q * k)) (nI i) (nI x)) FU (nI x, (nI c, nI m, nI q, nI B, nI g, nf P1, gu, nf b, aw, ta, ins, nf F1, nf O1, nf G, nf H, nf S1, nf D1))) (fun (e13 : ((Int32 × StV) ⊕ (Int32 × (StV × RdV)))) => el e13 (fun (s14 : (Int32 × StV)) => some ((-99999:Int32), (s14.2, (pd', mg', nI (q * k))))) (fun r => r)) = R := fun R => by
      simp only [f_X5_leastBid, req (n := c) hc hic (by omega), cp, py, cx, e1.1, e1.2.1, e1.2.2, gx, bd_s, c0, o_ne, ↓reduceIte]
    have fu : FU = 999997 + 1 + 1 + 1 := rfl
    by_cases w0 : Win (cnT ins mg' ta) (q * k) m c b i x
    · refine ⟨nI x, (nI c, nI m, nI q, nI B, nI g, nf P1, gu, nf (un b i x), aw, ta, ins, nf F1, nf O1, nf G, nf H, nf S1, nf D1), (head _).mpr ?_, hz8 _ (zb.un hic), Or.inr ⟨x, by omega, rfl, w0, win_less h1 (by omega) hic (by omega) gat⟩⟩
      rw [fu, lp_out (e := .inr (nI x, ((nI c, nI m, nI q, nI B, nI g, nf P1, gu, nf (un b i x), aw, ta, ins, nf F1, nf O1, nf G, nf H, nf S1, nf D1), (pd', mg', nI (q * k))))) (by
        have w0 : tkS (cnT ins mg' ta) (nf (kb (q * k) (un b i x))) (m % c) c c = nI i := w0
        simp only [b_X5_leastBid_60, St_count, St_month, St_contribution, St_box, St_given, St_purse, St_guarantor, St_bid, St_away, St_taken, St_inside, St_paidForItself, St_paidForOthers, St_gotOfPot, St_shares, St_misses, St_debt, St_count_s, St_month_s, St_contribution_s, St_box_s, St_given_s, St_purse_s, St_guarantor_s, St_bid_s, St_away_s, St_taken_s, St_inside_s, St_paidForItself_s, St_paidForOthers_s, St_gotOfPot_s, St_shares_s, St_misses_s, St_debt_s, Rd_paid, Rd_missing, Rd_pence, Rd_paid_s, Rd_missing_s, Rd_pence_s, s0, k0, g8, ci, b0, lt_e, t0, w0, bd_s, ↓reduceIte])]
      rfl
    · have w0' : ¬ tkS (cnT ins mg' ta) (nf (kb (q * k) (un b i x))) (m % c) c c = nI i := w0
      have st0 : b_X5_leastBid_60 (nI c, nI m, nI q, nI B, nI g, nf P, gu, nf b, aw, ta, ins, nf F, nf O, nf G, nf H, nf S, nf D) (pd', mg', nI (q * k)) (nI i) (nI x) (nI x, (nI c, nI m, nI q, nI B, nI g, nf P1, gu, nf b, aw, ta, ins, nf F1, nf O1, nf G, nf H, nf S1, nf D1)) = some (.inl (nI (x + 1), (nI c, nI m, nI q, nI B, nI g, nf P1, gu, nf (un b i x), aw, ta, ins, nf F1, nf O1, nf G, nf H, nf S1, nf D1))) := by
        simp only [b_X5_leastBid_60, St_count, St_month, St_contribution, St_box, St_given, St_purse, St_guarantor, St_bid, St_away, St_taken, St_inside, St_paidForItself, St_paidForOthers, St_gotOfPot, St_shares, St_misses, St_debt, St_count_s, St_month_s, St_contribution_s, St_box_s, St_given_s, St_purse_s, St_guarantor_s, St_bid_s, St_away_s, St_taken_s, St_inside_s, St_paidForItself_s, St_paidForOthers_s, St_gotOfPot_s, St_shares_s, St_misses_s, St_debt_s, Rd_paid, Rd_missing, Rd_pence, Rd_paid_s, Rd_missing_s, Rd_pence_s, s0, k0, g8, ci, b0, lt_e, t0, w0', bd_s, ↓reduceIte]
      by_cases w1 : Win (cnT ins mg' ta) (q * k) m c b i (x + 1)
      · refine ⟨nI (x + 1), (nI c, nI m, nI q, nI B, nI g, nf P1, gu, nf (un b i (x + 1)), aw, ta, ins, nf F1, nf O1, nf G, nf H, nf S1, nf D1), (head _).mpr ?_, hz8 _ (zb.un hic), Or.inr ⟨x + 1, by omega, rfl, w1, Or.inr w0⟩⟩
        rw [fu, lp_in st0, lp_out (e := .inr (nI (x + 1), ((nI c, nI m, nI q, nI B, nI g, nf P1, gu, nf (un b i (x + 1)), aw, ta, ins, nf F1, nf O1, nf G, nf H, nf S1, nf D1), (pd', mg', nI (q * k))))) (by
          have w1 : tkS (cnT ins mg' ta) (nf (kb (q * k) (un b i (x + 1)))) (m % c) c c = nI i := w1
          simp only [b_X5_leastBid_60, St_count, St_month, St_contribution, St_box, St_given, St_purse, St_guarantor, St_bid, St_away, St_taken, St_inside, St_paidForItself, St_paidForOthers, St_gotOfPot, St_shares, St_misses, St_debt, St_count_s, St_month_s, St_contribution_s, St_box_s, St_given_s, St_purse_s, St_guarantor_s, St_bid_s, St_away_s, St_taken_s, St_inside_s, St_paidForItself_s, St_paidForOthers_s, St_gotOfPot_s, St_shares_s, St_misses_s, St_debt_s, Rd_paid, Rd_missing, Rd_pence, Rd_paid_s, Rd_missing_s, Rd_pence_s, s0, k1, g8, ci, b1, lt_e, t1, w1, bd_s, ↓reduceIte])]
        rfl
      · have w1' : ¬ tkS (cnT ins mg' ta) (nf (kb (q * k) (un b i (x + 1)))) (m % c) c c = nI i := w1
        refine ⟨(-99999:Int32), (nI c, nI m, nI q, nI B, nI g, nf P1, gu, nf (un b i (x + 1)), aw, ta, ins, nf F1, nf O1, nf G, nf H, nf S1, nf D1), (head _).mpr ?_, hz8 _ (zb.un hic), Or.inl ⟨rfl, win_none h1 (by omega) hic (by omega) gmax w0 w1⟩⟩
        have st1 : b_X5_leastBid_60 (nI c, nI m, nI q, nI B, nI g, nf P, gu, nf b, aw, ta, ins, nf F, nf O, nf G, nf H, nf S, nf D) (pd', mg', nI (q * k)) (nI i) (nI x) (nI (x + 1), (nI c, nI m, nI q, nI B, nI g, nf P1, gu, nf (un b i x), aw, ta, ins, nf F1, nf O1, nf G, nf H, nf S1, nf D1)) = some (.inl (nI (x + 1 + 1), (nI c, nI m, nI q, nI B, nI g, nf P1, gu, nf (un b i (x + 1)), aw, ta, ins, nf F1, nf O1, nf G, nf H, nf S1, nf D1))) := by
          simp only [b_X5_leastBid_60, St_count, St_month, St_contribution, St_box, St_given, St_purse, St_guarantor, St_bid, St_away, St_taken, St_inside, St_paidForItself, St_paidForOthers, St_gotOfPot, St_shares, St_misses, St_debt, St_count_s, St_month_s, St_contribution_s, St_box_s, St_given_s, St_purse_s, St_guarantor_s, St_bid_s, St_away_s, St_taken_s, St_inside_s, St_paidForItself_s, St_paidForOthers_s, St_gotOfPot_s, St_shares_s, St_misses_s, St_debt_s, Rd_paid, Rd_missing, Rd_pence, Rd_paid_s, Rd_missing_s, Rd_pence_s, s0, k1, g8, ci, b1, lt_e, t1, w1', s1, bd_s, ↓reduceIte]
        rw [fu, lp_in st0, lp_in st1, lp_out (e := .inl (nI (x + 1 + 1), (nI c, nI m, nI q, nI B, nI g, nf P1, gu, nf (un b i (x + 1)), aw, ta, ins, nf F1, nf O1, nf G, nf H, nf S1, nf D1))) (by
          simp only [b_X5_leastBid_60, s0, k2, ↓reduceIte])]
        rfl
  · have e : (if ins i = 0 then (0:Int32) else if mg' i = 0 then (if ta i = 0 then 1 else 0) else 0) = 0 := by
      rcases hi i with e1 | e1
      · rw [if_pos e1]
      · rw [if_neg (by rw [e1]; decide)]
        rcases hm i with e2 | e2
        · rcases ht i with e3 | e3
          · exact absurd (cnT_yes e1 e2 e3) hcan
          · rw [if_pos e2, if_neg (by rw [e3]; decide)]
        · rw [if_neg (by rw [e2]; decide)]
    rw [e] at cx
    refine ⟨(-99999:Int32), (nI c, nI m, nI q, nI B, nI g, nf P1, gu, nf b, aw, ta, ins, nf F1, nf O1, nf G, nf H, nf S1, nf D1), ?_, hz8 _ zb, Or.inl ⟨rfl, fun hw => hcan (hw.can h1 (by omega) hic)⟩⟩
    simp only [f_X5_leastBid, req (n := c) hc hic (by omega), cp, py, cx, bd_s, ↓reduceIte]
end LEAST
