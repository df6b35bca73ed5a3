/-! all adds up: the chains, the debts, the law's own check -/
def setB (M a : Nat) : Nat := (nI M ||| ((1:Int32) <<< (nI a &&& 31))).toNatClampNeg
def pcn (M : Nat) : Nat := M % 2 + M / 2 % 2 + M / 4 % 2 + M / 8 % 2 + M / 16 % 2 + M / 32 % 2 + M / 64 % 2 + M / 128 % 2
theorem chain_bits : ∀ (M : Fin 256) (a : Fin 8), ((((nI M.1 >>> (nI a.1 &&& 31)) &&& (1:Int32)) = 0) → (nI M.1 ||| ((1:Int32) <<< (nI a.1 &&& 31))) = nI (setB M.1 a.1) ∧ setB M.1 a.1 = M.1 + 2 ^ a.1 ∧ pcn (setB M.1 a.1) = pcn M.1 + 1 ∧ (M.1 + 2 ^ a.1) < 256) := by decide +kernel
theorem chain_two : ∀ (a b : Fin 8), a ≠ b → ((nI (setB 0 a.1) >>> (nI b.1 &&& 31)) &&& (1:Int32)) = 0 := by decide +kernel
theorem chain_one : ∀ (a : Fin 8), ((nI 0 >>> (nI a.1 &&& 31)) &&& (1:Int32)) = 0 ∧ pcn (setB 0 a.1) = 1 := by decide +kernel
theorem chain_up : ∀ (c : Fin 8) (M : Fin 128) (a : Fin 8), M.1 < 2 ^ c.1 → a.1 < c.1 → ((nI M.1 >>> (nI a.1 &&& 31)) &&& (1:Int32)) = 0 → M.1 + 2 ^ a.1 < 2 ^ c.1 := by decide +kernel
theorem pcn_up : ∀ (c : Fin 8) (M : Fin 128), M.1 < 2 ^ c.1 → pcn M.1 ≤ c.1 := by decide +kernel
theorem two_le : ∀ (c : Fin 8), 2 ^ c.1 ≤ 128 := by decide +kernel
section CHAIN
variable {c m q B g : Nat} {P : Nat → Nat} {gu : Nat → Int32} {b : Nat → Nat} {aw ta ins : Nat → Int32} {F O G H S D : Nat → Nat}
theorem chain_n (hc : c ≤ 7) (hg : Gu c gu) {a : Nat} (ha : a < c) : ∃ k, f_X5_chain (nI c, nI m, nI q, nI B, nI g, nf P, gu, nf b, aw, ta, ins, nf F, nf O, nf G, nf H, nf S, nf D) (nI a) = some (nI k, ()) ∧ 1 ≤ k ∧ k ≤ c ∧ (k = 1 ↔ gu a = (-99999:Int32)) := by
  have t128 : 2 ^ c ≤ 128 := two_le ⟨c, by omega⟩
  have lo : One (lp (b_X3_chainLength_7 (nI c, nI m, nI q, nI B, nI g, nf P, gu, nf b, aw, ta, ins, nf F, nf O, nf G, nf H, nf S, nf D)) FU ((0:Int32), (0:Int32), nI a)) (fun e => ∃ k, e.2.1 = nI k ∧ 1 ≤ k ∧ k ≤ c ∧ (k = 1 ↔ gu a = (-99999:Int32))) := by
    refine lp_one (fun n s => ∃ M w, s = (nI M, nI (pcn M), w) ∧ M < 2 ^ c ∧ n = 8 - pcn M ∧ (w = (-99999:Int32) ∨ ∃ g, g < c ∧ w = nI g) ∧ ((M = 0 ∧ w = nI a) ∨ (M = setB 0 a ∧ w = gu a) ∨ (2 ≤ pcn M ∧ ¬ gu a = (-99999:Int32)))) _ ?_ (n := 8) ⟨0, nI a, rfl, Nat.two_pow_pos c, rfl, Or.inr ⟨a, ha, rfl⟩, Or.inl ⟨rfl, rfl⟩⟩ (FU_gt (by omega))
    rintro n s ⟨M, w, rfl, hM, rfl, hw, hph⟩ J hJ
    have hp : pcn M ≤ c := pcn_up ⟨c, by omega⟩ ⟨M, by omega⟩ hM
    have h8 : ¬ 8 ≤ pcn M := by omega
    rcases hw with rfl | ⟨g', hgc, rfl⟩
    · simp (disch := omega) only [b_X3_chainLength_7, le8, h8, ex_no, bd_s, ↓reduceIte]
      rcases hph with ⟨-, q⟩ | ⟨rfl, q⟩ | ⟨q, q2⟩
      · exact absurd q.symm (fun z => (nI_neg (by omega)).mp z)
      · refine ⟨1, ?_, Nat.le_refl _, by omega, fun _ => q.symm, fun _ => rfl⟩
        rw [(chain_one ⟨a, by omega⟩).2]
      · exact ⟨pcn M, rfl, by omega, hp, fun z => by omega, fun z => absurd z q2⟩
    · have hn : ¬ nI g' = (-99999:Int32) := fun q => (nI_neg (by omega)).mp q
      by_cases hz : ((nI M >>> (nI g' &&& 31)) &&& (1:Int32)) = 0
      · obtain ⟨q1, q2, q3, q4⟩ := chain_bits ⟨M, by omega⟩ ⟨g', by omega⟩ hz
        have q1 : (nI M ||| ((1:Int32) <<< (nI g' &&& 31))) = nI (setB M g') := q1
        have q2 : setB M g' = M + 2 ^ g' := q2
        have q3 : pcn (setB M g') = pcn M + 1 := q3
        have q5 : M + 2 ^ g' < 2 ^ c := chain_up ⟨c, by omega⟩ ⟨M, by omega⟩ ⟨g', by omega⟩ hM hgc hz
        simp (disch := omega) only [b_X3_chainLength_7, le8, h8, ex_yes, hn, hz, q1, St_count, St_month, St_contribution, St_box, St_given, St_purse, St_guarantor, St_bid, St_away, St_taken, St_inside, St_paidForItself, St_paidForOthers, St_gotOfPot, St_shares, St_misses, St_debt, St_count_s, St_month_s, St_contribution_s, St_box_s, St_given_s, St_purse_s, St_guarantor_s, St_bid_s, St_away_s, St_taken_s, St_inside_s, St_paidForItself_s, St_paidForOthers_s, St_gotOfPot_s, St_shares_s, St_misses_s, St_debt_s, Rd_paid, Rd_missing, Rd_pence, Rd_paid_s, Rd_missing_s, Rd_pence_s, mul8, lt_e, bd_s, gi_ok, gz2, q_add, nI_s1, nI_clamp, upd_same, nar0, nar1, c0, nf_at, nf_un, o_ne, ↓reduceIte]
        rw [← q3]
        refine hJ _ _ (by rw [q3]; omega) ⟨setB M g', gu g', rfl, by rw [q2]; exact q5, rfl, ?_, ?_⟩
        · rcases hg g' hgc with z | ⟨g2, z1, -, z2⟩
          · exact Or.inl z
          · exact Or.inr ⟨g2, z1, z2⟩
        · rcases hph with ⟨rfl, q⟩ | ⟨rfl, q⟩ | ⟨q, q6⟩
          · have : g' = a := (nI_inj (by omega) (by omega)).mp q
            subst this
            exact Or.inr (Or.inl ⟨rfl, rfl⟩)
          · refine Or.inr (Or.inr ⟨?_, by rw [← q]; exact hn⟩)
            rw [q3, (chain_one ⟨a, by omega⟩).2]
            omega
          · exact Or.inr (Or.inr ⟨by omega, q6⟩)
      · simp (disch := omega) only [b_X3_chainLength_7, le8, h8, ex_yes, hn, hz, bd_s, o_ne, ↓reduceIte]
        rcases hph with ⟨rfl, q⟩ | ⟨rfl, q⟩ | ⟨q, q2⟩
        · exact absurd (chain_one ⟨g', by omega⟩).1 hz
        · have ne : a ≠ g' := by
            rcases hg a ha with z | ⟨g2, z1, z2, z3⟩
            · rw [z] at q; exact absurd q hn
            · have := (nI_inj (by omega) (by omega)).mp (q.trans z3)
              omega
          exact absurd (chain_two ⟨a, by omega⟩ ⟨g', by omega⟩ (fun z => ne (congrArg Fin.val z))) hz
        · exact ⟨pcn M, rfl, by omega, hp, fun z => by omega, fun z => absurd z q2⟩
  obtain ⟨e, e1, k, e2, e3, e4, e5⟩ := on_get lo
  refine ⟨k, ?_, e3, e4, e5⟩
  rw [f_X5_chain, req (n := c) rfl ha (by omega), bd_s, f_X3_chainLength, e1, bd_s, bd_s, e2]
theorem su_cut {n : Nat} {f : Nat → Nat} (h : c ≤ n) (z : ∀ j, c ≤ j → j < n → f j = 0) : su n f = su c f := by
  induction n with
  | zero => rw [show c = 0 by omega]
  | succ n ih =>
    by_cases e : c = n + 1
    · rw [e]
    · rw [su_s, ih (by omega) (fun j h1 h2 => z j h1 (by omega)), z n (by omega) (by omega), Nat.add_zero]
theorem su_eight {n : Nat} {f : Nat → Nat} : su (n + 8) f = su n f + su 8 (fun j => f (n + j)) := by
  simp only [su, Nat.add_zero, Nat.zero_add]
  omega
theorem su_rows {f : Nat → Nat} : ∀ a, su (a * 8) f = su a (fun i => su 8 (fun j => f (i * 8 + j)))
  | 0 => rfl
  | a + 1 => by
    rw [show (a + 1) * 8 = a * 8 + 8 by omega, su_eight, su_rows a]
    rfl
theorem debts_all (hc : c ≤ 7) (hd : Db c D) : su 64 D = su c (fun i => su c (fun j => D (i * 8 + j))) := by
  have z : ∀ i j, i < 8 → j < 8 → (c ≤ i ∨ c ≤ j) → D (i * 8 + j) = 0 := by
    intro i j hi hj h
    by_cases e : D (i * 8 + j) = 0
    · exact e
    · obtain ⟨a, b', h1, h2, -, h3⟩ := hd _ e
      omega
  have e1 : su 64 D = su 8 (fun i => su 8 (fun j => D (i * 8 + j))) := su_rows 8
  rw [e1, su_cut (c := c) (n := 8) (by omega) (fun i h1 h2 => by
    rw [su_ext (f' := fun _ => 0) (fun j hj => z i j h2 hj (Or.inl h1)), su_zero])]
  refine su_ext fun i hi => ?_
  exact su_cut (by omega) (fun j h1 h2 => z i j (by omega) h2 (Or.inr h1))
theorem addUp_W (h : OkW c m q B g P gu b aw ta ins F O G H S D) : f_L_addUp (nI c, nI m, nI q, nI B, nI g, nf P, gu, nf b, aw, ta, ins, nf F, nf O, nf G, nf H, nf S, nf D) (nI c) = some ((1:Int32), ()) := by
  have hP9 := h.P9
  have h0 := h
  obtain ⟨⟨g1, g2, g3, g4, g5⟩, g6, hg, ha, ht, hi, hb, hF, hD, hDb, zP, zgu, zb, za, zt, zi, zF, zO, zG, zH, zS⟩ := h
  have hc : St_count (nI c, nI m, nI q, nI B, nI g, nf P, gu, nf b, aw, ta, ins, nf F, nf O, nf G, nf H, nf S, nf D) = nI c := rfl
  have inn : ∀ i, i < c → ∀ (s : Int32) (t : Nat), lp (b_L_addUp_16 (nI c, nI m, nI q, nI B, nI g, nf P, gu, nf b, aw, ta, ins, nf F, nf O, nf G, nf H, nf S, nf D) (nI c) s (nI i)) FU (nI t, (0:Int32)) = some (nI (t + su c (fun j => D (i * 8 + j))), nI c) := by
    intro i hic s t
    obtain ⟨e, e1, rfl⟩ := on_get (lp_one (b := b_L_addUp_16 (nI c, nI m, nI q, nI B, nI g, nf P, gu, nf b, aw, ta, ins, nf F, nf O, nf G, nf H, nf S, nf D) (nI c) s (nI i)) (fun n z => ∃ k, z = (nI (t + su k (fun j => D (i * 8 + j))), nI k) ∧ k ≤ c ∧ n = c - k) (fun e => e = (nI (t + su c (fun j => D (i * 8 + j))), nI c)) (by
      rintro n z ⟨k, rfl, h1, rfl⟩ J hJ
      by_cases kc : k = c
      · subst kc
        simp (disch := omega) only [b_L_addUp_16, nI_lei, Nat.le_refl, ↓reduceIte]
        rfl
      · have nk : ¬ c ≤ k := by omega
        have next : J (nI (t + su (k + 1) (fun j => D (i * 8 + j))), nI (k + 1)) := hJ _ _ (by omega) ⟨k + 1, rfl, by omega, rfl⟩
        rw [su_s, ← Nat.add_assoc] at next
        by_cases e : i = k
        · subst e
          have z : D (i * 8 + i) = 0 := by
            by_cases q0 : D (i * 8 + i) = 0
            · exact q0
            · obtain ⟨x, y, h1, h2, h3, h4⟩ := hDb _ q0
              omega
          rw [z, Nat.add_zero] at next
          simp (disch := omega) only [b_L_addUp_16, nI_lei, nk, add0, lt_e, nI_s1, ↓reduceIte]
          exact next
        · have ow := owe_n (n := c) hc hic (j := k) (by omega) e (by omega)
          have ow : f_X5_owes (nI c, nI m, nI q, nI B, nI g, nf P, gu, nf b, aw, ta, ins, nf F, nf O, nf G, nf H, nf S, nf D) (nI i) (nI k) = some (nI (D (i * 8 + k)), ()) := ow
          simp (disch := omega) only [b_L_addUp_16, nI_lei, nI_inj, nk, e, ow, bd_s, lt_e, q_add, nI_s1, ↓reduceIte]
          exact next) (n := c) (fu := FU) (s := (nI t, (0:Int32))) ⟨0, rfl, by omega, by omega⟩ (FU_gt (by omega)))
    exact e1
  have outer : One (lp (b_L_addUp_7 (nI c, nI m, nI q, nI B, nI g, nf P, gu, nf b, aw, ta, ins, nf F, nf O, nf G, nf H, nf S, nf D) (nI c)) FU ((0:Int32), (0:Int32), (0:Int32))) (fun e => e = .inl (nI (su c (fun i => su c (fun j => D (i * 8 + j)))), sI c (wt ins ta), nI c)) := by
    refine lp_one (fun n z => ∃ k, z = (nI (su k (fun i => su c (fun j => D (i * 8 + j)))), sI k (wt ins ta), nI k) ∧ k ≤ c ∧ n = c - k) _ ?_ (n := c) ⟨0, rfl, by omega, by omega⟩ (FU_gt (by omega))
    rintro n z ⟨k, rfl, h1, rfl⟩ J hJ
    by_cases kc : k = c
    · subst kc
      simp (disch := omega) only [b_L_addUp_7, nI_lei, Nat.le_refl, ↓reduceIte]
      rfl
    · have nk : ¬ c ≤ k := by omega
      have hk : k < c := by omega
      have next : J (nI (su (k + 1) (fun i => su c (fun j => D (i * 8 + j)))), sI (k + 1) (wt ins ta), nI (k + 1)) := hJ _ _ (by omega) ⟨k + 1, rfl, by omega, rfl⟩
      rw [su_s] at next
      unfold sI at next
      have hw : wt ins ta k = if ins k = 0 then 0 else if ta k = 0 then 1 else 0 := rfl
      have m5 : f_X5_member (nI c, nI m, nI q, nI B, nI g, nf P, gu, nf b, aw, ta, ins, nf F, nf O, nf G, nf H, nf S, nf D) (nI k) (5:Int32) = some (ins k, ()) := mem_5 (n := c) hc hk (by omega) hi
      have m4 : f_X5_member (nI c, nI m, nI q, nI B, nI g, nf P, gu, nf b, aw, ta, ins, nf F, nf O, nf G, nf H, nf S, nf D) (nI k) (4:Int32) = some (ta k, ()) := mem_4 (n := c) hc hk (by omega) ht
      have m1 : f_X5_member (nI c, nI m, nI q, nI B, nI g, nf P, gu, nf b, aw, ta, ins, nf F, nf O, nf G, nf H, nf S, nf D) (nI k) (1:Int32) = some (gu k, ()) := mem_1 (n := c) hc hk (by omega)
      have m0 : f_X5_member (nI c, nI m, nI q, nI B, nI g, nf P, gu, nf b, aw, ta, ins, nf F, nf O, nf G, nf H, nf S, nf D) (nI k) (0:Int32) = some (nI (P k), ()) := mem_0 (n := c) hc hk (by omega)
      obtain ⟨x, c1, c2, c3, c4⟩ := chain_n (m := m) (q := q) (B := B) (g := g) (P := P) (b := b) (aw := aw) (ta := ta) (ins := ins) (F := F) (O := O) (G := G) (H := H) (S := S) (D := D) g3 hg hk
      have p9 := hP9 k
      have x0 : ¬ x < 1 := by omega
      have x1 : ¬ c < x := by omega
      have lt1 : nI x < (1:Int32) ↔ x < 1 := nI_lti (b := 1) (by omega) (by omega)
      by_cases d1 : gu k = (-99999:Int32)
      · have d2 : x = 1 := c4.mpr d1
        have d3 : nI x = (1:Int32) := by rw [d2]; rfl
        have w1 : ¬ (1:Int32) < 1 := by decide
        have w2 : ¬ nI c < (1:Int32) := fun z => by have := (nI_lti (b := 1) (by omega) (by omega)).mp z; omega
        rcases hi k with e1 | e1
        · rw [hw, if_pos e1, add0] at next
          simp (disch := omega) only [b_L_addUp_7, nI_lei, nk, inn k hk, m5, m1, m0, c1, e1, bd_s, z_ne, lt_e, add0, nI_nn, d1, d3, w1, w2, nI_s1, ↓reduceIte]
          exact next
        · rcases ht k with e2 | e2
          · rw [hw, if_neg (by rw [e1]; decide), if_pos e2] at next
            simp (disch := omega) only [b_L_addUp_7, nI_lei, nk, inn k hk, m5, m4, m1, m0, c1, e1, e2, bd_s, lt_e, add0, nI_nn, d1, d3, w1, w2, nI_s1, ↓reduceIte]
            exact next
          · rw [hw, if_neg (by rw [e1]; decide), if_neg (by rw [e2]; decide), add0] at next
            simp (disch := omega) only [b_L_addUp_7, nI_lei, nk, inn k hk, m5, m4, m1, m0, c1, e1, e2, bd_s, o_ne, lt_e, add0, nI_nn, d1, d3, w1, w2, nI_s1, ↓reduceIte]
            exact next
      · have d2 : ¬ x = 1 := fun z => d1 (c4.mp z)
        have d3 : ¬ nI x = (1:Int32) := fun z => d2 ((eq1 (by omega)).mp z)
        rcases hi k with e1 | e1
        · rw [hw, if_pos e1, add0] at next
          simp (disch := omega) only [b_L_addUp_7, nI_lei, nk, inn k hk, m5, m1, m0, c1, e1, bd_s, z_ne, lt_e, add0, nI_nn, lt1, nI_lti, x0, x1, if_neg d1, if_neg d3, nI_s1, ↓reduceIte]
          exact next
        · rcases ht k with e2 | e2
          · rw [hw, if_neg (by rw [e1]; decide), if_pos e2] at next
            simp (disch := omega) only [b_L_addUp_7, nI_lei, nk, inn k hk, m5, m4, m1, m0, c1, e1, e2, bd_s, lt_e, add0, nI_nn, lt1, nI_lti, x0, x1, if_neg d1, if_neg d3, nI_s1, ↓reduceIte]
            exact next
          · rw [hw, if_neg (by rw [e1]; decide), if_neg (by rw [e2]; decide), add0] at next
            simp (disch := omega) only [b_L_addUp_7, nI_lei, nk, inn k hk, m5, m4, m1, m0, c1, e1, e2, bd_s, o_ne, lt_e, add0, nI_nn, lt1, nI_lti, x0, x1, if_neg d1, if_neg d3, nI_s1, ↓reduceIte]
            exact next
  obtain ⟨e, e1, rfl⟩ := on_get outer
  have a4 : f_X5_about (nI c, nI m, nI q, nI B, nI g, nf P, gu, nf b, aw, ta, ins, nf F, nf O, nf G, nf H, nf S, nf D) (4:Int32) = some (nI B, ()) := ab_4
  have a8 : f_X5_about (nI c, nI m, nI q, nI B, nI g, nf P, gu, nf b, aw, ta, ins, nf F, nf O, nf G, nf H, nf S, nf D) (8:Int32) = some (nI g, ()) := ab_8
  have a5 : f_X5_about (nI c, nI m, nI q, nI B, nI g, nf P, gu, nf b, aw, ta, ins, nf F, nf O, nf G, nf H, nf S, nf D) (5:Int32) = some (nI (su c P), ()) := by rw [← sI_nf]; exact ab_5 (n := c) hc (by omega)
  have a1 : f_X5_about (nI c, nI m, nI q, nI B, nI g, nf P, gu, nf b, aw, ta, ins, nf F, nf O, nf G, nf H, nf S, nf D) (1:Int32) = some (sI c ins, ()) := ab_1 (n := c) hc (by omega) hi
  have a6 : f_X5_about (nI c, nI m, nI q, nI B, nI g, nf P, gu, nf b, aw, ta, ins, nf F, nf O, nf G, nf H, nf S, nf D) (6:Int32) = some (sI c (wt ins ta), ()) := ab_6 (n := c) hc (by omega)
  have a7 : f_X5_about (nI c, nI m, nI q, nI B, nI g, nf P, gu, nf b, aw, ta, ins, nf F, nf O, nf G, nf H, nf S, nf D) (7:Int32) = some (nI (su 64 D), ()) := by rw [← sI_nf]; exact ab_7
  have s0 : f_L_sum (nI c, nI m, nI q, nI B, nI g, nf P, gu, nf b, aw, ta, ins, nf F, nf O, nf G, nf H, nf S, nf D) (nI c) (0:Int32) = some (sI c (nf P), ()) := sum_row (by omega) (fun i hi' => mem_0 (n := c) hc hi' (by omega))
  have s5 : f_L_sum (nI c, nI m, nI q, nI B, nI g, nf P, gu, nf b, aw, ta, ins, nf F, nf O, nf G, nf H, nf S, nf D) (nI c) (5:Int32) = some (sI c ins, ()) := sum_row (by omega) (fun i hi' => mem_5 (n := c) hc hi' (by omega) hi)
  rw [sI_nf] at s0
  rw [debts_all g3 hDb] at a7
  simp (disch := omega) only [f_L_addUp, e1, bd_s, el, a4, a5, a8, a1, a6, a7, s0, s5, nI_nn, q_add, g6, ↓reduceIte]
end CHAIN
theorem Ok.addUp {c m q g : Nat} {v : StV} (h : Ok c m q g v) : f_L_addUp v (nI c) = some ((1:Int32), ()) := by
  obtain ⟨B, P, gu, b, aw, ta, ins, F, O, G, H, S, D, rfl, h⟩ := h
  exact addUp_W h
