/-! what a good state answers -/
section ASK
variable {c m q B g : Nat} {P : Nat → Nat} {gu : Nat → Int32} {b : Nat → Nat} {aw ta ins : Nat → Int32} {F O G H S D : Nat → Nat}
variable {v : StV} {n : Nat}
theorem req {i : Nat} (h : St_count v = nI n) (hi : i < n) (hn : n ≤ 8) : f_X5_requireMember v (nI i) = some ((), ()) := by
  have k : ¬ n ≤ i := by omega
  have h : v.1 = nI n := h
  simp (disch := omega) only [f_X5_requireMember, f_X3_exists, St_count, h, nI_nn, nI_lei, k, bd_s, o_ne, ↓reduceIte]
theorem req2 {i j : Nat} (h : St_count v = nI n) (hi : i < n) (hj : j < n) (hij : i ≠ j) (hn : n ≤ 8) : f_X5_requireTwoMembers v (nI i) (nI j) = some ((), ()) := by
  simp (disch := omega) only [f_X5_requireTwoMembers, req h hi hn, req h hj hn, bd_s, nI_inj, hij, ↓reduceIte]
theorem mem_0 {i : Nat} (h : St_count v = nI n) (hi : i < n) (hn : n ≤ 8) : f_X5_member v (nI i) (0:Int32) = some (St_purse v i, ()) := by
  have e8 : ∀ {β : Type} {k : Option β}, gi (nI i) 8 k = k := fun {β k} => gi_ok (by omega) (by omega)
  simp (decide := true) (disch := omega) only [f_X5_member, req h hi hn, bd_s, e8, nI_clamp, ↓reduceIte]
theorem mem_1 {i : Nat} (h : St_count v = nI n) (hi : i < n) (hn : n ≤ 8) : f_X5_member v (nI i) (1:Int32) = some (St_guarantor v i, ()) := by
  have e8 : ∀ {β : Type} {k : Option β}, gi (nI i) 8 k = k := fun {β k} => gi_ok (by omega) (by omega)
  simp (decide := true) (disch := omega) only [f_X5_member, req h hi hn, bd_s, e8, nI_clamp, ↓reduceIte]
theorem mem_2 {i : Nat} (h : St_count v = nI n) (hi : i < n) (hn : n ≤ 8) : f_X5_member v (nI i) (2:Int32) = some (St_bid v i, ()) := by
  have e8 : ∀ {β : Type} {k : Option β}, gi (nI i) 8 k = k := fun {β k} => gi_ok (by omega) (by omega)
  simp (decide := true) (disch := omega) only [f_X5_member, req h hi hn, bd_s, e8, nI_clamp, ↓reduceIte]
theorem mem_3 {i : Nat} (h : St_count v = nI n) (hi : i < n) (hn : n ≤ 8) (hb : Bo (St_away v)) : f_X5_member v (nI i) (3:Int32) = some (St_away v i, ()) := by
  have e8 : ∀ {β : Type} {k : Option β}, gi (nI i) 8 k = k := fun {β k} => gi_ok (by omega) (by omega)
  simp (decide := true) (disch := omega) only [f_X5_member, req h hi hn, bd_s, e8, nI_clamp, ↓reduceIte] 
  rcases hb i with e | e
  · rw [if_pos e, e]
  · rw [if_neg (by rw [e]; decide), e]
theorem mem_4 {i : Nat} (h : St_count v = nI n) (hi : i < n) (hn : n ≤ 8) (hb : Bo (St_taken v)) : f_X5_member v (nI i) (4:Int32) = some (St_taken v i, ()) := by
  have e8 : ∀ {β : Type} {k : Option β}, gi (nI i) 8 k = k := fun {β k} => gi_ok (by omega) (by omega)
  simp (decide := true) (disch := omega) only [f_X5_member, req h hi hn, bd_s, e8, nI_clamp, ↓reduceIte] 
  rcases hb i with e | e
  · rw [if_pos e, e]
  · rw [if_neg (by rw [e]; decide), e]
theorem mem_5 {i : Nat} (h : St_count v = nI n) (hi : i < n) (hn : n ≤ 8) (hb : Bo (St_inside v)) : f_X5_member v (nI i) (5:Int32) = some (St_inside v i, ()) := by
  have e8 : ∀ {β : Type} {k : Option β}, gi (nI i) 8 k = k := fun {β k} => gi_ok (by omega) (by omega)
  simp (decide := true) (disch := omega) only [f_X5_member, req h hi hn, bd_s, e8, nI_clamp, ↓reduceIte] 
  rcases hb i with e | e
  · rw [if_pos e, e]
  · rw [if_neg (by rw [e]; decide), e]
theorem mem_6 {i : Nat} (h : St_count v = nI n) (hi : i < n) (hn : n ≤ 8) : f_X5_member v (nI i) (6:Int32) = some (St_paidForItself v i, ()) := by
  have e8 : ∀ {β : Type} {k : Option β}, gi (nI i) 8 k = k := fun {β k} => gi_ok (by omega) (by omega)
  simp (decide := true) (disch := omega) only [f_X5_member, req h hi hn, bd_s, e8, nI_clamp, ↓reduceIte]
theorem mem_7 {i : Nat} (h : St_count v = nI n) (hi : i < n) (hn : n ≤ 8) : f_X5_member v (nI i) (7:Int32) = some (St_paidForOthers v i, ()) := by
  have e8 : ∀ {β : Type} {k : Option β}, gi (nI i) 8 k = k := fun {β k} => gi_ok (by omega) (by omega)
  simp (decide := true) (disch := omega) only [f_X5_member, req h hi hn, bd_s, e8, nI_clamp, ↓reduceIte]
theorem mem_8 {i : Nat} (h : St_count v = nI n) (hi : i < n) (hn : n ≤ 8) : f_X5_member v (nI i) (8:Int32) = some (St_gotOfPot v i, ()) := by
  have e8 : ∀ {β : Type} {k : Option β}, gi (nI i) 8 k = k := fun {β k} => gi_ok (by omega) (by omega)
  simp (decide := true) (disch := omega) only [f_X5_member, req h hi hn, bd_s, e8, nI_clamp, ↓reduceIte]
theorem mem_9 {i : Nat} (h : St_count v = nI n) (hi : i < n) (hn : n ≤ 8) : f_X5_member v (nI i) (9:Int32) = some (St_shares v i, ()) := by
  have e8 : ∀ {β : Type} {k : Option β}, gi (nI i) 8 k = k := fun {β k} => gi_ok (by omega) (by omega)
  simp (decide := true) (disch := omega) only [f_X5_member, req h hi hn, bd_s, e8, nI_clamp, ↓reduceIte]
theorem mem_10 {i : Nat} (h : St_count v = nI n) (hi : i < n) (hn : n ≤ 8) : f_X5_member v (nI i) (10:Int32) = some (St_misses v i, ()) := by
  have e8 : ∀ {β : Type} {k : Option β}, gi (nI i) 8 k = k := fun {β k} => gi_ok (by omega) (by omega)
  simp (decide := true) (disch := omega) only [f_X5_member, req h hi hn, bd_s, e8, nI_clamp, ↓reduceIte]
theorem ab_0 : f_X5_about v (0:Int32) = some (St_count v, ()) := by simp (decide := true) only [f_X5_about, ↓reduceIte]
theorem ab_2 : f_X5_about v (2:Int32) = some (St_month v, ()) := by simp (decide := true) only [f_X5_about, ↓reduceIte]
theorem ab_3 : f_X5_about v (3:Int32) = some (St_contribution v, ()) := by simp (decide := true) only [f_X5_about, ↓reduceIte]
theorem ab_4 : f_X5_about v (4:Int32) = some (St_box v, ()) := by simp (decide := true) only [f_X5_about, ↓reduceIte]
theorem ab_8 : f_X5_about v (8:Int32) = some (St_given v, ()) := by simp (decide := true) only [f_X5_about, ↓reduceIte]
/-- waiting, as a row -/
def wt (ins ta : Nat → Int32) : Nat → Int32 := fun j => if ins j = 0 then 0 else if ta j = 0 then 1 else 0
theorem wt_bo (ins ta : Nat → Int32) : Bo (wt ins ta) := fun j => by
  unfold wt
  split
  · exact Or.inl rfl
  · split
    · exact Or.inr rfl
    · exact Or.inl rfl
theorem sI_bo {f : Nat → Int32} (h : Bo f) : ∀ c, ∃ k, k ≤ c ∧ sI c f = nI k ∧ (k = 0 → ∀ j, j < c → f j = 0) ∧ ((∀ j, j < c → f j = 0) → k = 0)
  | 0 => ⟨0, Nat.le_refl _, rfl, fun _ j hj => by omega, fun _ => rfl⟩
  | c + 1 => by
    obtain ⟨k, h1, h2, h3, h4⟩ := sI_bo h c
    rcases h c with e | e
    · refine ⟨k, by omega, by unfold sI; rw [h2, e, add0], fun hk j hj => ?_, fun hz => h4 fun j hj => hz j (by omega)⟩
      by_cases q : j = c
      · rw [q, e]
      · exact h3 hk j (by omega)
    · refine ⟨k + 1, by omega, by unfold sI; rw [h2, e, nI_s1], fun hk => by omega, fun hz => ?_⟩
      have := hz c (by omega)
      rw [e] at this
      exact absurd this (by decide)
theorem inside_n (h : St_count v = nI n) (hn : n ≤ 8) (hb : Bo (St_inside v)) : f_X3_countInside v = some (sI n (St_inside v), ()) := by
  have hc : v.1 = nI n := h
  obtain ⟨e, e1, rfl⟩ := on_get (lp_one (b := b_X3_countInside_4 v) (fun k s => ∃ i, s = (sI i (St_inside v), nI i) ∧ i ≤ n ∧ k = n - i) (fun e => e = (sI n (St_inside v), nI n)) (by
    rintro k s ⟨i, rfl, h1, rfl⟩ J hJ
    by_cases q : i = n
    · subst q
      simp (disch := omega) only [b_X3_countInside_4, St_count, hc, nI_lei, Nat.le_refl, ↓reduceIte]
      rfl
    · have ni : ¬ n ≤ i := by omega
      have e8 : ∀ {β : Type} {k : Option β}, gi (nI i) 8 k = k := fun {β k} => gi_ok (by omega) (by omega)
      have next : J (sI (i + 1) (St_inside v), nI (i + 1)) := hJ _ _ (by omega) ⟨i + 1, rfl, by omega, rfl⟩
      unfold sI at next
      rcases hb i with e | e
      · rw [e, add0] at next
        simp (disch := omega) only [b_X3_countInside_4, St_count, hc, nI_lei, ni, e8, nI_clamp, e, lt_e, nI_s1, ↓reduceIte]
        exact next
      · rw [e] at next
        simp (disch := omega) only [b_X3_countInside_4, St_count, hc, nI_lei, ni, e8, nI_clamp, e, o_ne, lt_e, nI_s1, ↓reduceIte]
        exact next) (n := n) (fu := FU) (s := ((0:Int32), (0:Int32))) ⟨0, rfl, by omega, by omega⟩ (FU_gt (by omega)))
  rw [f_X3_countInside, e1, bd_s]
theorem waiting_n (h : St_count v = nI n) (hn : n ≤ 8) : f_X3_countWaiting v = some (sI n (wt (St_inside v) (St_taken v)), ()) := by
  have hc : v.1 = nI n := h
  obtain ⟨e, e1, rfl⟩ := on_get (lp_one (b := b_X3_countWaiting_4 v) (fun k s => ∃ i, s = (sI i (wt (St_inside v) (St_taken v)), nI i) ∧ i ≤ n ∧ k = n - i) (fun e => e = (sI n (wt (St_inside v) (St_taken v)), nI n)) (by
    rintro k s ⟨i, rfl, h1, rfl⟩ J hJ
    by_cases q : i = n
    · subst q
      simp (disch := omega) only [b_X3_countWaiting_4, St_count, hc, nI_lei, Nat.le_refl, ↓reduceIte]
      rfl
    · have ni : ¬ n ≤ i := by omega
      have e8 : ∀ {β : Type} {k : Option β}, gi (nI i) 8 k = k := fun {β k} => gi_ok (by omega) (by omega)
      have next : J (sI (i + 1) (wt (St_inside v) (St_taken v)), nI (i + 1)) := hJ _ _ (by omega) ⟨i + 1, rfl, by omega, rfl⟩
      unfold sI at next
      have hw : wt (St_inside v) (St_taken v) i = if St_inside v i = 0 then 0 else if St_taken v i = 0 then 1 else 0 := rfl
      by_cases e : St_inside v i = 0
      · rw [hw, if_pos e, add0] at next
        simp (disch := omega) only [b_X3_countWaiting_4, St_count, hc, nI_lei, ni, e8, nI_clamp, e, lt_e, nI_s1, ↓reduceIte]
        exact next
      · by_cases e2 : St_taken v i = 0
        · rw [hw, if_neg e, if_pos e2] at next
          simp (disch := omega) only [b_X3_countWaiting_4, St_count, hc, nI_lei, ni, e8, nI_clamp, if_neg e, e2, lt_e, nI_s1, ↓reduceIte]
          exact next
        · rw [hw, if_neg e, if_neg e2, add0] at next
          simp (disch := omega) only [b_X3_countWaiting_4, St_count, hc, nI_lei, ni, e8, nI_clamp, if_neg e, if_neg e2, lt_e, nI_s1, ↓reduceIte]
          exact next) (n := n) (fu := FU) (s := ((0:Int32), (0:Int32))) ⟨0, rfl, by omega, by omega⟩ (FU_gt (by omega)))
  rw [f_X3_countWaiting, e1, bd_s]
theorem purses_n (h : St_count v = nI n) (hn : n ≤ 8) : f_X3_sumOfPurses v = some (sI n (St_purse v), ()) := by
  have hc : v.1 = nI n := h
  obtain ⟨e, e1, rfl⟩ := on_get (lp_one (b := b_X3_sumOfPurses_4 v) (fun k s => ∃ i, s = (sI i (St_purse v), nI i) ∧ i ≤ n ∧ k = n - i) (fun e => e = (sI n (St_purse v), nI n)) (by
    rintro k s ⟨i, rfl, h1, rfl⟩ J hJ
    by_cases q : i = n
    · subst q
      simp (disch := omega) only [b_X3_sumOfPurses_4, St_count, hc, nI_lei, Nat.le_refl, ↓reduceIte]
      rfl
    · have ni : ¬ n ≤ i := by omega
      have e8 : ∀ {β : Type} {k : Option β}, gi (nI i) 8 k = k := fun {β k} => gi_ok (by omega) (by omega)
      have next : J (sI (i + 1) (St_purse v), nI (i + 1)) := hJ _ _ (by omega) ⟨i + 1, rfl, by omega, rfl⟩
      unfold sI at next
      simp (disch := omega) only [b_X3_sumOfPurses_4, St_count, hc, nI_lei, ni, e8, nI_clamp, lt_e, nI_s1, ↓reduceIte]
      exact next) (n := n) (fu := FU) (s := ((0:Int32), (0:Int32))) ⟨0, rfl, by omega, by omega⟩ (FU_gt (by omega)))
  rw [f_X3_sumOfPurses, e1, bd_s]
theorem debts_lp {N fu : Nat} (hN : N = 64) (hf : N < fu) : One (lp (b_X3_sumOfDebts_4 v) fu ((0:Int32), (0:Int32))) (fun e => e.1 = sI N (St_debt v)) := by
  refine lp_one (fun k s => ∃ i, s = (sI i (St_debt v), nI i) ∧ i ≤ N ∧ k = N - i) _ ?_ (n := N) ⟨0, rfl, by omega, by omega⟩ hf
  rintro k s ⟨i, rfl, h1, rfl⟩ J hJ
  by_cases q : i = N
  · have le : 64 ≤ i := by omega
    simp (disch := omega) only [b_X3_sumOfDebts_4, le64, le, ↓reduceIte]
    show sI i (St_debt v) = sI N (St_debt v)
    rw [q]
  · have ni : ¬ 64 ≤ i := by omega
    have e8 : ∀ {β : Type} {k : Option β}, gi (nI i) 64 k = k := fun {β k} => gi_ok (by omega) (by omega)
    have next : J (sI (i + 1) (St_debt v), nI (i + 1)) := hJ _ _ (by omega) ⟨i + 1, rfl, by omega, rfl⟩
    unfold sI at next
    simp (disch := omega) only [b_X3_sumOfDebts_4, le64, ni, e8, nI_clamp, lt_e, nI_s1, ↓reduceIte]
    exact next
theorem debts_n : f_X3_sumOfDebts v = some (sI 64 (St_debt v), ()) := by
  have key : ∀ N, N = 64 → f_X3_sumOfDebts v = some (sI N (St_debt v), ()) := by
    intro N hN
    obtain ⟨e, e1, e2⟩ := lp_get (n := N) (by omega) (fun fu hf => debts_lp (v := v) hN hf)
    rw [f_X3_sumOfDebts, e1, bd_s, e2]
  exact key 64 rfl
theorem ab_1 (h : St_count v = nI n) (hn : n ≤ 8) (hb : Bo (St_inside v)) : f_X5_about v (1:Int32) = some (sI n (St_inside v), ()) := by
  simp (decide := true) only [f_X5_about, inside_n h hn hb, bd_s, ↓reduceIte]
theorem ab_5 (h : St_count v = nI n) (hn : n ≤ 8) : f_X5_about v (5:Int32) = some (sI n (St_purse v), ()) := by
  simp (decide := true) only [f_X5_about, purses_n h hn, bd_s, ↓reduceIte]
theorem ab_6 (h : St_count v = nI n) (hn : n ≤ 8) : f_X5_about v (6:Int32) = some (sI n (wt (St_inside v) (St_taken v)), ()) := by
  simp (decide := true) only [f_X5_about, waiting_n h hn, bd_s, ↓reduceIte]
theorem ab_7 : f_X5_about v (7:Int32) = some (sI 64 (St_debt v), ()) := by
  simp (decide := true) only [f_X5_about, debts_n, bd_s, ↓reduceIte]
/-- the law's own sums -/
theorem sum_row {f : Nat → Int32} {k : Int32} (hn : n ≤ 8) (h : ∀ i, i < n → f_X5_member v (nI i) k = some (f i, ())) : f_L_sum v (nI n) k = some (sI n f, ()) := by
  obtain ⟨e, e1, rfl⟩ := on_get (lp_one (b := b_L_sum_5 v (nI n) k) (fun j s => ∃ i, s = (sI i f, nI i) ∧ i ≤ n ∧ j = n - i) (fun e => e = (sI n f, nI n)) (by
    rintro j s ⟨i, rfl, h1, rfl⟩ J hJ
    by_cases q : i = n
    · subst q
      simp (disch := omega) only [b_L_sum_5, nI_lei, Nat.le_refl, ↓reduceIte]
      rfl
    · have ni : ¬ n ≤ i := by omega
      have next : J (sI (i + 1) f, nI (i + 1)) := hJ _ _ (by omega) ⟨i + 1, rfl, by omega, rfl⟩
      unfold sI at next
      simp (disch := omega) only [b_L_sum_5, nI_lei, ni, h i (by omega), bd_s, lt_e, nI_s1, ↓reduceIte]
      exact next) (n := n) (fu := FU) (s := ((0:Int32), (0:Int32))) ⟨0, rfl, by omega, by omega⟩ (FU_gt (by omega)))
  rw [f_L_sum, e1, bd_s]
theorem owe_n {i j : Nat} (h : St_count v = nI n) (hi : i < n) (hj : j < n) (hij : i ≠ j) (hn : n ≤ 8) : f_X5_owes v (nI i) (nI j) = some (St_debt v (i * 8 + j), ()) := by
  simp (disch := omega) only [f_X5_owes, req2 h hi hj hij hn, f_X3_pair, bd_s, mul8, q_add, gi_ok, nI_clamp]
end ASK
/-- what a good state has of each -/
theorem Ok.cnt {c m q g : Nat} {v : StV} (h : Ok c m q g v) : St_count v = nI c ∧ St_month v = nI m ∧ St_contribution v = nI q ∧ St_given v = nI g ∧ Bo (St_away v) ∧ Bo (St_taken v) ∧ Bo (St_inside v) ∧ c ≤ 7 ∧ m ≤ 99 ∧ 1 ≤ q ∧ q ≤ 20 := by
  obtain ⟨B, P, gu, b, aw, ta, ins, F, O, G, H, S, D, rfl, h⟩ := h
  exact ⟨rfl, rfl, rfl, rfl, h.2.2.2.1, h.2.2.2.2.1, h.2.2.2.2.2.1, h.1.2.2.1, h.1.2.2.2.1, h.1.1, h.1.2.1⟩
theorem cell_ok {xs : Nat → Int32} {L i : Nat} (hL : L ≤ 260) (hi : i ≤ 1000) : ∃ x, f_L_cell xs L (nI i) = some (x, ()) := by
  by_cases h : L ≤ i
  · have e : Int32.ofNat L ≤ nI i := (nI_lei (a := L) (by omega) (by omega)).mpr h
    exact ⟨_, by rw [f_L_cell, if_pos e]⟩
  · have e : ¬ Int32.ofNat L ≤ nI i := fun q => h ((nI_lei (a := L) (by omega) (by omega)).mp q)
    exact ⟨_, by rw [f_L_cell, if_neg e, gi_ok (by omega) (by omega)]⟩
theorem and_nn (v : Int32) : ∃ a, a < 2147483648 ∧ v &&& (2147483647:Int32) = nI a := by
  refine nat_of fun h => ?_
  rw [Int32.lt_iff_toInt_lt] at h
  have m1 : (v &&& (2147483647:Int32)).toBitVec.msb = false := by
    have m2 : (2147483647:Int32).toBitVec.msb = false := by decide
    rw [Int32.toBitVec_and, BitVec.msb_and, m2, Bool.and_false]
  have e : (v &&& (2147483647:Int32)).toInt = ((v &&& (2147483647:Int32)).toBitVec.toNat : Int) := by
    show (v &&& (2147483647:Int32)).toBitVec.toInt = _
    rw [BitVec.toInt_eq_msb_cond, m1]
    rfl
  have z : (0:Int32).toInt = 0 := rfl
  omega
theorem low_ok (x : Int32) {k : Nat} (h1 : 1 ≤ k) (h2 : k ≤ 1000) : ∃ a, a < k ∧ f_L_low x (nI k) = some (nI a, ()) := by
  obtain ⟨a, h3, e⟩ := and_nn x
  have nz : ¬ nI k = 0 := fun q => by have := (nI_inj (b := 0) (by omega) (by omega)).mp q; omega
  exact ⟨a % k, Nat.mod_lt _ (by omega), by rw [f_L_low, gz, if_neg nz, lt_e, e, nI_rem h3 (by omega)]⟩
