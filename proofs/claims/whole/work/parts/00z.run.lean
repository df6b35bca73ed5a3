/-! a whole script -/
theorem gzl5 {β : Type} {k : Option β} : gzl (100000:Int64) k = k := if_neg (by decide)
theorem gzlN {β : Type} {a : Nat} {k : Option β} (h : 0 < a) (h2 : a < 2 ^ 63) : gzl (lN a) k = k := if_neg (fun q => by
  have q : lN a = lN 0 := q
  rw [pk_lEQ h2 (by omega)] at q
  omega)
def hpw : Nat → Nat
  | 0 => 1
  | 1 => 100000
  | 2 => 10000000000
  | _ => 1000000000000000
theorem hpw_s {i : Nat} (h : i < 3) : hpw (i + 1) = 100000 * hpw i ∧ 0 < hpw i ∧ hpw i ≤ 10000000000 := by
  rcases (show i = 0 ∨ i = 1 ∨ i = 2 by omega) with rfl | rfl | rfl
  · exact ⟨rfl, by decide, by decide⟩
  · exact ⟨rfl, by decide, by decide⟩
  · exact ⟨rfl, by decide, by decide⟩
theorem hpw_b {i : Nat} (h : i ≤ 3) : 0 < hpw i ∧ hpw i ≤ 1000000000000000 := by
  rcases (show i = 0 ∨ i = 1 ∨ i = 2 ∨ i = 3 by omega) with rfl | rfl | rfl | rfl
  · exact ⟨by decide, by decide⟩
  · exact ⟨by decide, by decide⟩
  · exact ⟨by decide, by decide⟩
  · exact ⟨by decide, by decide⟩
theorem low_groups {k J : Nat} (hk : k < 2 ^ 63) (hJ : J ≤ 3) : f_X5_withoutLowGroups (lN k) (nI J) = some (lN (k / hpw J), ()) := by
  have lo : One (lp (b_X5_withoutLowGroups_5 (nI J)) FU (lN k, (0:Int32))) (fun e => e = (lN (k / hpw J), nI J)) := by
    refine lp_one (fun w s => ∃ i, s = (lN (k / hpw i), nI i) ∧ i ≤ J ∧ w = J - i) _ ?_ (n := J) ⟨0, by rw [show hpw 0 = 1 from rfl, Nat.div_one]; rfl, by omega, by omega⟩ (FU_gt (by omega))
    rintro w s ⟨i, rfl, h1, rfl⟩ P hP
    have hlt : k / hpw i < 2 ^ 63 := Nat.lt_of_le_of_lt (Nat.div_le_self _ _) hk
    by_cases h : i = J
    · subst h
      have e : b_X5_withoutLowGroups_5 (nI i) (lN (k / hpw i), nI i) = some (.inr (lN (k / hpw i), nI i)) := by
        simp (disch := omega) only [b_X5_withoutLowGroups_5, nI_lei, Nat.le_refl, ↓reduceIte]
      rw [e]
      exact rfl
    · have e1 : lN (k / hpw i) / (100000:Int64) = lN (k / hpw (i + 1)) := by
        rw [(hpw_s (show i < 3 by omega)).1, Nat.mul_comm, ← Nat.div_div_eq_div_mul]
        exact pk_lDiv (b := 100000) hlt (by omega) (by omega)
      have e : b_X5_withoutLowGroups_5 (nI J) (lN (k / hpw i), nI i) = some (.inl (lN (k / hpw (i + 1)), nI (i + 1))) := by
        simp (disch := omega) only [b_X5_withoutLowGroups_5, nI_lei, show ¬ J ≤ i by omega, gzl5, lt_e, e1, nI_s1, ↓reduceIte]
      rw [e]
      exact hP (J - (i + 1)) _ (by omega) ⟨i + 1, rfl, by omega, rfl⟩
  obtain ⟨e, e1, rfl⟩ := on_get lo
  simp only [f_X5_withoutLowGroups, e1, bd_s]
theorem limit {N : Nat} (h1 : 1 ≤ N) (h3 : N ≤ 3) (v0 : MdV) (p2 : Int64) : lp (b_X6_runScript_30 v0 (nI N) p2 (1:Int32)) FU ((100000:Int64), (1:Int32)) = some (lN (hpw N), nI N) := by
  have lo : One (lp (b_X6_runScript_30 v0 (nI N) p2 (1:Int32)) FU ((100000:Int64), (1:Int32))) (fun e => e = (lN (hpw N), nI N)) := by
    refine lp_one (fun w s => ∃ i, s = (lN (hpw i), nI i) ∧ 1 ≤ i ∧ i ≤ N ∧ w = N - i) _ ?_ (n := N - 1) ⟨1, rfl, by omega, by omega, by omega⟩ (FU_gt (by omega))
    rintro w s ⟨i, rfl, h0, h1, rfl⟩ P hP
    by_cases h : i = N
    · subst h
      have e : b_X6_runScript_30 v0 (nI i) p2 (1:Int32) (lN (hpw i), nI i) = some (.inr (lN (hpw i), nI i)) := by
        simp (disch := omega) only [b_X6_runScript_30, nI_lei, Nat.le_refl, ↓reduceIte]
      rw [e]
      exact rfl
    · have e1 : lN (hpw i) * (100000:Int64) = lN (hpw (i + 1)) := by
        rw [(hpw_s (show i < 3 by omega)).1, Nat.mul_comm]
        exact lN_mul (hpw i) 100000
      have e : b_X6_runScript_30 v0 (nI N) p2 (1:Int32) (lN (hpw i), nI i) = some (.inl (lN (hpw (i + 1)), nI (i + 1))) := by
        simp (disch := omega) only [b_X6_runScript_30, nI_lei, show ¬ N ≤ i by omega, o_ne, lt_e, e1, nI_s1, ↓reduceIte]
      rw [e]
      exact hP (N - (i + 1)) _ (by omega) ⟨i + 1, rfl, by omega, by omega, rfl⟩
  obtain ⟨e, e1, rfl⟩ := on_get lo
  exact e1
theorem limit0 (v0 : MdV) (p1 : Int32) (p2 : Int64) : lp (b_X6_runScript_30 v0 p1 p2 (0:Int32)) FU ((100000:Int64), (1:Int32)) = some ((100000:Int64), (1:Int32)) := by
  refine lp_mono 1 FU _ _ (FU_le (by omega)) (lp_x (k := 0) ?_)
  by_cases q : p1 ≤ (1:Int32)
  · simp only [b_X6_runScript_30, q, ↓reduceIte]
  · simp only [b_X6_runScript_30, q, ↓reduceIte]
section RUN
variable {th : Int32} {z past : Nat → Int32} {pm : Int32} {sl sv sp tx : Nat → Int32} {ty : Int32} {hp mi : Nat → Int32} {pot : Int32} {rd : Nat → Int32} {spt wr : Int32}
variable {c m : Nat} {v : StV}
theorem script_both (g : Gs c m v z) (hm : m ≤ 99) (r : RdV) {k N : Nat} (hk : k < 2 ^ 63) (hN : N ≤ 3) (v1 : StV) : Two (lp (b_X5_runScript_49 v1 (nI N) (lN k)) FU ((0:Int32), v, r)) (lp (b_X6_runScript_96 (nI N) (lN k)) FU (lN (hpw N), (-99999:Int32), (0:Int32), (th, z, past, pm, sl, sv, sp, tx, ty, hp, mi, pot, rd, spt, wr))) (fun e f => ∃ x q kk m' v' r' z' hp' mi' pot', f = (x, q, kk, (th, z', past, pm, sl, sv, sp, tx, ty, hp', mi', pot', rd, spt, wr)) ∧ Gs c m' v' z' ∧ ((∃ k', e = .inl (k', v', r') ∧ q = (-99999:Int32)) ∨ e = .inr (q, (v', r')))) := by
  refine lp_tail (fun n s t => ∃ i m' v' r' z' hp' mi' pot', s = (nI i, v', r') ∧ t = (lN (hpw (N - i)), (-99999:Int32), nI i, (th, z', past, pm, sl, sv, sp, tx, ty, hp', mi', pot', rd, spt, wr)) ∧ Gs c m' v' z' ∧ m' ≤ 99 ∧ i ≤ N ∧ n = N - i) 2 _ ?_ (n := N) ⟨0, m, v, r, z, hp, mi, pot, rfl, rfl, g, hm, by omega, by omega⟩ (FU_gt (by omega))
  rintro n s t ⟨i, m', v', r', z', hp', mi', pot', rfl, rfl, g', hm', h1, rfl⟩ J X hJ hX
  by_cases h : i = N
  · subst h
    have e1 : b_X5_runScript_49 v1 (nI i) (lN k) (nI i, v', r') = some (.inr (.inl (nI i, v', r'))) := by
      simp (disch := omega) only [b_X5_runScript_49, nI_lei, Nat.le_refl, ↓reduceIte]
    rw [e1]
    refine hX _ (on_mk (lp_x (k := 1) ?_) ⟨lN (hpw (i - i)), -99999, nI i, m', v', r', z', hp', mi', pot', rfl, g', Or.inl ⟨nI i, rfl, rfl⟩⟩)
    simp (disch := omega) only [b_X6_runScript_96, nI_lei, Nat.le_refl, ↓reduceIte]
  · have hi : i < N := by omega
    have s0 : nI N - (1:Int32) - nI i = nI (N - 1 - i) := by
      rw [sub1 (by omega), nI_sub (by omega)]
    have w0 := low_groups hk (J := N - 1 - i) (by omega)
    obtain ⟨hp1, hp2, hp3⟩ := hpw_s (i := N - 1 - i) (by omega)
    have hdl : k / hpw (N - 1 - i) < 2 ^ 63 := Nat.lt_of_le_of_lt (Nat.div_le_self _ _) hk
    have s1 : lN (k / hpw (N - 1 - i)) - lN (k / hpw (N - 1 - i)) / (100000:Int64) * (100000:Int64) = lN (k / hpw (N - 1 - i) % 100000) := pk_lRem (b := 100000) hdl (by omega) (by omega)
    have s2 : lN (hpw (N - i)) / (100000:Int64) = lN (hpw (N - 1 - i)) := by
      rw [show N - i = N - 1 - i + 1 by omega, hp1]
      have q := pk_lDiv (a := 100000 * hpw (N - 1 - i)) (b := 100000) (by omega) (by omega) (by omega)
      rw [Nat.mul_div_cancel_left _ (by omega)] at q
      exact q
    have s3 : lN k / lN (hpw (N - 1 - i)) = lN (k / hpw (N - 1 - i)) := pk_lDiv hk hp2 (by omega)
    have hG : k / hpw (N - 1 - i) % 100000 ≤ 99999 := by
      have := Nat.mod_lt (k / hpw (N - 1 - i)) (show 100000 > 0 by omega)
      omega
    obtain ⟨b, v2, r2, z2, hp2', mi2, pot2, m2, hb, q1, q2, g2, hm2⟩ := cmd g' hm' r' hG (th := th) (past := past) (pm := pm) (sl := sl) (sv := sv) (sp := sp) (tx := tx) (ty := ty) (hp := hp') (mi := mi') (pot := pot') (rd := rd) (spt := spt) (wr := wr)
    have e1 : b_X5_runScript_49 v1 (nI N) (lN k) (nI i, v', r') = if b = (0:Int32) then some (.inr (.inr (nI i, (v2, r2)))) else some (.inl (nI (i + 1), v2, r2)) := by
      simp (disch := omega) only [b_X5_runScript_49, nI_lei, show ¬ N ≤ i by omega, s0, w0, bd_s, gzl5, lt_e, s1, lN_i, q1, nI_s1, ↓reduceIte]
    have e2 : b_X6_runScript_96 (nI N) (lN k) (lN (hpw (N - i)), (-99999:Int32), nI i, (th, z', past, pm, sl, sv, sp, tx, ty, hp', mi', pot', rd, spt, wr)) = if b = (0:Int32) then some (.inl (lN (hpw (N - 1 - i)), nI i, nI (i + 1), (th, z2, past, pm, sl, sv, sp, tx, ty, hp2', mi2, pot2, rd, spt, wr))) else some (.inl (lN (hpw (N - 1 - i)), (-99999:Int32), nI (i + 1), (th, z2, past, pm, sl, sv, sp, tx, ty, hp2', mi2, pot2, rd, spt, wr))) := by
      have gz2' : ∀ {β : Type} {kk : Option β}, gzl (lN (hpw (N - 1 - i))) kk = kk := gzlN hp2 (by omega)
      simp (disch := omega) only [b_X6_runScript_96, nI_lei, show ¬ N ≤ i by omega, gzl5, lt_e, s2, gz2', s3, s1, lN_i, q2, bd_s, nI_s1, ↓reduceIte]
    rcases hb with rfl | rfl
    · rw [if_pos rfl] at e1 e2
      rw [e1]
      refine hX _ (on_mk (lp_u (k := 1) e2 (lp_x (k := 0) ?_)) ⟨lN (hpw (N - 1 - i)), nI i, nI (i + 1), m2, v2, r2, z2, hp2', mi2, pot2, rfl, g2, Or.inr rfl⟩)
      by_cases h2 : N ≤ i + 1
      · simp (disch := omega) only [b_X6_runScript_96, nI_lei, h2, ↓reduceIte]
      · simp (disch := omega) only [b_X6_runScript_96, nI_lei, h2, nI_neg, ↓reduceIte]
    · rw [if_neg (by decide)] at e1 e2
      rw [e1, e2]
      exact hJ (N - (i + 1)) _ _ (by omega) ⟨i + 1, m2, v2, r2, z2, hp2', mi2, pot2, rfl, by rw [show N - (i + 1) = N - 1 - i by omega], g2, hm2, by omega, rfl⟩
theorem cmp_neg {x : Int64} : lg_cmp x (0:Int64) < 0 ↔ x < 0 := lg_cmp_lt x 0
theorem cmp_eq {x y : Int64} : lg_cmp x y = 0 ↔ x = y := lg_cmp_eq x y
theorem try_runScript (hv : Now v z) (t0 : StV) (r : RdV) (i : Int32) (x : Int64) : Two (f_X5_runScript v t0 r i x) (f_X6_runScript (th, z, past, pm, sl, sv, sp, tx, ty, hp, mi, pot, rd, spt, wr) i x) (Ans (fun s k => s = IAE ∧ k = 1) (fun (_ : StV × RdV) q => ∃ t sp' hp' mi' pot', q = (t, z, past, pm, sl, sv, sp', tx, ty, hp', mi', pot', rd, spt, wr))) := by
  obtain ⟨c, m, hm, g⟩ := hv
  have n10 : ¬ (1:Int32) ≤ 0 := by decide
  have p00 : (0:Int32) ≤ 0 := by decide
  rcases rng2 i 1 3 (by omega) (by omega) with hb | ⟨N, hN1, hN3, rfl⟩
  · have e1 : f_X5_requireRange i (1:Int32) (3:Int32) = some (.inr (IAE, ())) := rr_no hb
    have e2 : f_X6_in i (1:Int32) (3:Int32) = some ((0:Int32), ()) := in_no hb
    refine tw_mk (a := .inr (IAE, (t0, r))) (b := ((0:Int32), (1, z, past, pm, sl, sv, sp, tx, ty, hp, mi, pot, rd, spt, wr))) ?_ ?_ ⟨1, ⟨rfl, rfl⟩, rfl, 1, sp, hp, mi, pot, rfl⟩
    · rw [f_X5_runScript, e1, bx_r]
    · rw [f_X6_runScript, e2, bd_s, if_pos rfl, limit0, bd_s, if_pos rfl, lt_e, if_neg n10]
  · have e1 : f_X5_requireRange (nI N) (1:Int32) (3:Int32) = some (.inl ((), ())) := rr_k (lo := 1) (hi := 3) hN1 hN3 (by omega)
    have e2 : f_X6_in (nI N) (1:Int32) (3:Int32) = some ((1:Int32), ()) := in_k2 (lo := 1) (hi := 3) hN1 hN3 (by omega)
    by_cases hx : x < 0
    · refine tw_mk (a := .inr (IAE, (t0, r))) (b := ((0:Int32), (1, z, past, pm, sl, sv, sp, tx, ty, hp, mi, pot, rd, spt, wr))) ?_ ?_ ⟨1, ⟨rfl, rfl⟩, rfl, 1, sp, hp, mi, pot, rfl⟩
      · rw [f_X5_runScript, e1, bx_l, if_pos (cmp_neg.mpr hx)]
      · rw [f_X6_runScript, e2, bd_s, if_neg (by decide), if_pos (cmp_neg.mpr hx), limit0, bd_s, if_pos rfl, lt_e, if_neg n10]
    · obtain ⟨k, hk, rfl⟩ := pk_lOf hx
      have w0 := low_groups hk (J := N) hN3
      have w1 := limit hN1 hN3 (th, z, past, pm, sl, sv, sp, tx, ty, hp, mi, pot, rd, spt, wr) (lN k)
      obtain ⟨pw0, pw1⟩ := hpw_b hN3
      have nx : ¬ lg_cmp (lN k) (0:Int64) < 0 := fun q => hx (cmp_neg.mp q)
      by_cases hl : hpw N ≤ k
      · have d0 : ¬ lg_cmp (lN (k / hpw N)) (0:Int64) = 0 := fun q => by
          have q := cmp_eq.mp q
          have q : lN (k / hpw N) = lN 0 := q
          rw [pk_lEQ (Nat.lt_of_le_of_lt (Nat.div_le_self _ _) hk) (by omega)] at q
          have := Nat.div_pos hl pw0
          omega
        have d1 : (0:Int32) ≤ lg_cmp (lN k) (lN (hpw N)) := (lg_cmp_ge _ _).mpr ((pk_lLE (by omega) hk).mpr hl)
        refine tw_mk (a := .inr (IAE, (t0, r))) (b := ((0:Int32), (1, z, past, pm, sl, sv, sp, tx, ty, hp, mi, pot, rd, spt, wr))) ?_ ?_ ⟨1, ⟨rfl, rfl⟩, rfl, 1, sp, hp, mi, pot, rfl⟩
        · rw [f_X5_runScript, e1, bx_l, if_neg nx, w0, bd_s, if_neg d0]
        · rw [f_X6_runScript, e2, bd_s, if_neg (by decide), if_neg nx, w1, bd_s, if_neg (by decide), if_pos d1, lt_e, if_neg n10]
      · have d0 : lg_cmp (lN (k / hpw N)) (0:Int64) = 0 := cmp_eq.mpr (by rw [Nat.div_eq_of_lt (by omega)]; rfl)
        have d1 : ¬ (0:Int32) ≤ lg_cmp (lN k) (lN (hpw N)) := fun q => by
          have q := (pk_lLE (by omega) hk).mp ((lg_cmp_ge _ _).mp q)
          omega
        obtain ⟨t, c1, g1⟩ := g.copy t0
        obtain ⟨sp', a2, hs⟩ := aside_f (th := (0:Int32)) (z := z) (past := past) (pm := pm) (sl := sl) (sv := sv) (sp := sp) (tx := tx) (ty := ty) (hp := hp) (mi := mi) (pot := pot) (rd := rd) (spt := spt) (wr := wr)
        obtain ⟨e9, f9, e3, e4, x', q, kk, m', v', r', z', hp', mi', pot', rfl, g2, hr⟩ := tw_get (script_both g1 hm r hk hN3 v (th := (0:Int32)) (past := past) (pm := pm) (sl := sl) (sv := sv) (sp := sp') (tx := tx) (ty := ty) (hp := hp) (mi := mi) (pot := pot) (rd := rd) (spt := spt) (wr := wr))
        have e5 := back_f (th := (0:Int32)) (z := z') (past := past) (pm := pm) (sl := sl) (sv := sv) (sp := sp') (tx := tx) (ty := ty) (hp := hp') (mi := mi') (pot := pot') (rd := rd) (spt := spt) (wr := wr) hs (g2.zero g)
        have em : f_X6_runScript (th, z, past, pm, sl, sv, sp, tx, ty, hp, mi, pot, rd, spt, wr) (nI N) (lN k) = some (q, (0, z, past, pm, sl, sv, sp', tx, ty, hp', mi', pot', rd, spt, wr)) := by
          rw [f_X6_runScript, e2, bd_s, if_neg (by decide), if_neg nx, w1, bd_s, if_neg (by decide), if_neg d1, lt_e, if_pos p00, a2, bd_s, e4, bd_s, e5, bd_s]
        rcases hr with ⟨k', rfl, rfl⟩ | rfl
        · refine tw_mk (a := .inl ((-99999:Int32), (v', r'))) ?_ em ⟨rfl, rfl, 0, sp', hp', mi', pot', rfl⟩
          rw [f_X5_runScript, e1, bx_l, if_neg nx, w0, bd_s, if_pos d0, c1, bd_s, e3, bd_s, el_l]
        · refine tw_mk (a := .inl (q, (v', r'))) ?_ em ⟨rfl, rfl, 0, sp', hp', mi', pot', rfl⟩
          rw [f_X5_runScript, e1, bx_l, if_neg nx, w0, bd_s, if_pos d0, c1, bd_s, e3, bd_s, el_r]
end RUN
