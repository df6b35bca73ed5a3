/-! a command beside the other one; a whole script -/
def sucX (v1 : StV) (v2 : RdV) (x2 x5 x8 x10 x12 : Int32) : Option (Int32 × (StV × RdV)) := (if x2 = (1:Int32) then (if x5 = (0:Int32) then (if (10:Int32) ≤ x10 then some ((0:Int32), (v1, v2)) else bd (f_X2_monthsPass v1 v2 x10) (fun (q50 : Int32 × (StV × RdV)) => (if q50.1 = (0:Int32) then some ((0:Int32), (q50.2.1, q50.2.2)) else some ((1:Int32), (q50.2.1, q50.2.2))))) else some ((0:Int32), (v1, v2))) else bd (f_X3_exists v1 x5) (fun (q14 : Int32 × (Unit)) => (if q14.1 = (0:Int32) then some ((0:Int32), (v1, v2)) else (if x2 = (2:Int32) then bd (f_X2_bidOf v1 x5 x10) (fun (q17 : Int32 × (StV)) => gb q17.1 (some (q17.1, (q17.2, v2)))) else if x2 = (3:Int32) then (if x12 = (0:Int32) then bd (f_X2_guarantorOf v1 x5 x8) (fun (q21 : Int32 × (StV)) => (if q21.1 = (0:Int32) then some ((0:Int32), (q21.2, v2)) else some ((1:Int32), (q21.2, v2)))) else some ((0:Int32), (v1, v2))) else if x2 = (4:Int32) then (if x12 = (0:Int32) then (if (1:Int32) < x8 then some ((0:Int32), (v1, v2)) else (if x8 = (1:Int32) then bd (f_X2_markOf v1 x5 (1:Int32)) (fun (q29 : Int32 × (StV)) => (if q29.1 = (0:Int32) then some ((0:Int32), (q29.2, v2)) else some ((1:Int32), (q29.2, v2)))) else bd (f_X2_markOf v1 x5 (0:Int32)) (fun (q27 : Int32 × (StV)) => (if q27.1 = (0:Int32) then some ((0:Int32), (q27.2, v2)) else some ((1:Int32), (q27.2, v2)))))) else some ((0:Int32), (v1, v2))) else if x2 = (5:Int32) then bd (f_X2_gift v1 x5 x10) (fun (q32 : Int32 × (StV)) => gb q32.1 (some (q32.1, (q32.2, v2)))) else if x2 = (6:Int32) then (if x10 = (0:Int32) then bd (f_X2_going v1 x5) (fun (q36 : Int32 × (StV)) => (if q36.1 = (0:Int32) then some ((0:Int32), (q36.2, v2)) else some ((1:Int32), (q36.2, v2)))) else some ((0:Int32), (v1, v2))) else if x2 = (7:Int32) then gi x5 8 ((if (St_purse v1 x5.toNatClampNeg) < x10 then some ((0:Int32), (v1, v2)) else some ((1:Int32), (v1, v2)))) else if x2 = (8:Int32) then bd (f_X2_owesAtMost v1 x5 x8 x12) (fun (q42 : Int32 × (Unit)) => gb q42.1 (some (q42.1, (v1, v2)))) else if x2 = (9:Int32) then (if x10 = (0:Int32) then gi x5 8 ((if (St_taken v1 x5.toNatClampNeg) = (0:Int32) then some ((0:Int32), (v1, v2)) else some ((1:Int32), (v1, v2)))) else some ((0:Int32), (v1, v2))) else some ((0:Int32), (v1, v2))))))
def sucM (v0 : MdV) (x2 x5 x8 x10 : Int32) : Option (Int32 × (MdV)) := (if x2 = (0:Int32) then some ((0:Int32), v0) else (if (7:Int32) ≤ x2 then bd (f_X6_isMember v0 x5) (fun (q13 : Int32 × (Unit)) => (if q13.1 = (0:Int32) then some ((0:Int32), v0) else (if x2 = (7:Int32) then gi ((5:Int32) + x5) 157 ((if (Md_z v0 ((5:Int32) + x5).toNatClampNeg) < x10 then some ((0:Int32), v0) else some ((1:Int32), v0))) else (if x2 = (8:Int32) then bd (f_X6_isMember v0 x8) (fun (q20 : Int32 × (Unit)) => (if q20.1 = (0:Int32) then some ((0:Int32), v0) else (if x5 = x8 then some ((0:Int32), v0) else gi (((93:Int32) + ((8:Int32) * x5)) + x8) 157 (lt (Md_z v0 (((93:Int32) + ((8:Int32) * x5)) + x8).toNatClampNeg) (fun (x24 : Int32) => gz (100:Int32) ((if (x10 - x10 / (100:Int32) * (100:Int32)) < x24 then some ((0:Int32), v0) else some ((1:Int32), v0)))))))) else (if x10 = (0:Int32) then gi ((37:Int32) + x5) 157 ((if (Md_z v0 ((37:Int32) + x5).toNatClampNeg) = (1:Int32) then some ((1:Int32), v0) else some ((0:Int32), v0))) else some ((0:Int32), v0)))))) else bd (f_X6_changes v0 x2 x5 x8 x10) (fun (q29 : Int32 × (MdV)) => gb q29.1 (some (q29.1, q29.2)))))
theorem suc_x (v1 : StV) (v2 : RdV) (i1 : Int32) : f_X2_succeeds v1 v2 i1 = sucX v1 v2 (i1 / (10000:Int32)) ((i1 / (1000:Int32)) - (i1 / (1000:Int32)) / (10:Int32) * (10:Int32)) ((i1 / (100:Int32)) - (i1 / (100:Int32)) / (10:Int32) * (10:Int32)) (i1 - i1 / (1000:Int32) * (1000:Int32)) (i1 - i1 / (100:Int32) * (100:Int32)) := by
  unfold f_X2_succeeds sucX
  rw [gz10000, lt_e, gz1000, gz10, lt_e, gz100, gz10, lt_e, gz1000, lt_e, gz100, lt_e]
theorem suc_m (v0 : MdV) (i1 : Int32) : f_X6_succeeds v0 i1 = sucM v0 (i1 / (10000:Int32)) ((i1 / (1000:Int32)) - (i1 / (1000:Int32)) / (10:Int32) * (10:Int32)) ((i1 / (100:Int32)) - (i1 / (100:Int32)) / (10:Int32) * (10:Int32)) (i1 - i1 / (1000:Int32) * (1000:Int32)) := by
  unfold f_X6_succeeds sucM
  rw [gz10000, lt_e, gz1000, gz10, lt_e, gz100, gz10, lt_e, gz1000, lt_e]
section SCR
variable {th : Int32} {z past : Nat → Int32} {pm : Int32} {sl sv sp tx : Nat → Int32} {ty : Int32} {hp mi : Nat → Int32} {pot : Int32} {rd : Nat → Int32} {spt wr : Int32}
variable {c m : Nat} {v : StV}
theorem cmd_none (g : Gs c m v z) {B T : Nat} (hB : (nI B < 0 ∨ nI c ≤ nI B)) (C : Int32) (hT : T ≤ 999) {A : Int32} (hA : A = 2 ∨ A = 3 ∨ A = 4 ∨ A = 5 ∨ A = 6) : f_X6_changes (th, z, past, pm, sl, sv, sp, tx, ty, hp, mi, pot, rd, spt, wr) A (nI B) C (nI T) = some ((0:Int32), (th, z, past, pm, sl, sv, sp, tx, ty, hp, mi, pot, rd, spt, wr)) := by
  obtain ⟨m1, m2, m3⟩ := g.no (th := th) (past := past) (pm := pm) (sl := sl) (sv := sv) (sp := sp) (tx := tx) (ty := ty) (hp := hp) (mi := mi) (pot := pot) (rd := rd) (spt := spt) (wr := wr) hB
  rcases hA with rfl | rfl | rfl | rfl | rfl
  · simp (decide := true) only [f_X6_changes, f_X6_whyNotBid, m2, bd_s, ↓reduceIte]
  · by_cases q : (0:Int32) < nI T - nI T / (100:Int32) * (100:Int32)
    · simp (decide := true) only [f_X6_changes, gz100, q, ↓reduceIte]
    · simp (decide := true) only [f_X6_changes, f_X6_whyNotTwo, gz100, q, m2, bd_s, ↓reduceIte]
  · by_cases q : (0:Int32) < nI T - nI T / (100:Int32) * (100:Int32)
    · simp (decide := true) only [f_X6_changes, gz100, q, ↓reduceIte]
    · by_cases q2 : (1:Int32) < C
      · simp (decide := true) only [f_X6_changes, gz100, q, q2, ↓reduceIte]
      · simp (decide := true) only [f_X6_changes, gz100, q, q2, m2, bd_s, ↓reduceIte]
  · simp (decide := true) only [f_X6_changes, f_X6_whyNotGive, m2, bd_s, ↓reduceIte]
  · by_cases q : (0:Int32) < nI T
    · simp (decide := true) only [f_X6_changes, q, ↓reduceIte]
    · simp (decide := true) only [f_X6_changes, f_X6_whyNotLeave, q, m2, bd_s, ↓reduceIte]
theorem cmd (g : Gs c m v z) (hm : m ≤ 99) (r : RdV) {G : Nat} (hG : G ≤ 99999) : ∃ b v' r' z' hp' mi' pot' m', (b = (0:Int32) ∨ b = (1:Int32)) ∧ f_X2_succeeds v r (nI G) = some (b, (v', r')) ∧ f_X6_succeeds (th, z, past, pm, sl, sv, sp, tx, ty, hp, mi, pot, rd, spt, wr) (nI G) = some (b, (th, z', past, pm, sl, sv, sp, tx, ty, hp', mi', pot', rd, spt, wr)) ∧ Gs c m' v' z' ∧ m' ≤ 99 := by
  have hc := g.cnt.1
  have dA : nI G / (10000:Int32) = nI (G / 10000) := nI_div (b := 10000) (by omega) (by omega)
  have d3 : nI G / (1000:Int32) = nI (G / 1000) := nI_div (b := 1000) (by omega) (by omega)
  have d2 : nI G / (100:Int32) = nI (G / 100) := nI_div (b := 100) (by omega) (by omega)
  have dB : nI G / (1000:Int32) - nI G / (1000:Int32) / (10:Int32) * (10:Int32) = nI (G / 1000 % 10) := by rw [d3]; exact nI_rem (b := 10) (by omega) (by omega)
  have dC : nI G / (100:Int32) - nI G / (100:Int32) / (10:Int32) * (10:Int32) = nI (G / 100 % 10) := by rw [d2]; exact nI_rem (b := 10) (by omega) (by omega)
  have dT : nI G - nI G / (1000:Int32) * (1000:Int32) = nI (G % 1000) := nI_rem (b := 1000) (by omega) (by omega)
  have dD : nI G - nI G / (100:Int32) * (100:Int32) = nI (G % 1000 % 100) := by rw [show G % 1000 % 100 = G % 100 by omega]; exact nI_rem (b := 100) (by omega) (by omega)
  have hA : G / 10000 ≤ 9 := by omega
  have hB9 : G / 1000 % 10 ≤ 9 := by omega
  have hC9 : G / 100 % 10 ≤ 9 := by omega
  have hT9 : G % 1000 ≤ 999 := by omega
  rw [suc_x, suc_m, dA, dB, dC, dT, dD]
  clear d2 d3 dA dB dC dT dD
  generalize G / 10000 = A at hA ⊢
  generalize G / 1000 % 10 = B at hB9 ⊢
  generalize G / 100 % 10 = C at hC9 ⊢
  generalize G % 1000 = T at hT9 ⊢
  have e0 : nI 0 = (0:Int32) := rfl
  have e1 : nI 1 = (1:Int32) := rfl
  have e2 : nI 2 = (2:Int32) := rfl
  have e3 : nI 3 = (3:Int32) := rfl
  have e4 : nI 4 = (4:Int32) := rfl
  have e5 : nI 5 = (5:Int32) := rfl
  have e6 : nI 6 = (6:Int32) := rfl
  have e7 : nI 7 = (7:Int32) := rfl
  have e8 : nI 8 = (8:Int32) := rfl
  have e9 : nI 9 = (9:Int32) := rfl
  have fail : sucX v r (nI A) (nI B) (nI C) (nI T) (nI (T % 100)) = some ((0:Int32), (v, r)) → sucM (th, z, past, pm, sl, sv, sp, tx, ty, hp, mi, pot, rd, spt, wr) (nI A) (nI B) (nI C) (nI T) = some ((0:Int32), (th, z, past, pm, sl, sv, sp, tx, ty, hp, mi, pot, rd, spt, wr)) → ∃ b v' r' z' hp' mi' pot' m', (b = (0:Int32) ∨ b = (1:Int32)) ∧ sucX v r (nI A) (nI B) (nI C) (nI T) (nI (T % 100)) = some (b, (v', r')) ∧ sucM (th, z, past, pm, sl, sv, sp, tx, ty, hp, mi, pot, rd, spt, wr) (nI A) (nI B) (nI C) (nI T) = some (b, (th, z', past, pm, sl, sv, sp, tx, ty, hp', mi', pot', rd, spt, wr)) ∧ Gs c m' v' z' ∧ m' ≤ 99 := fun q1 q2 => ⟨0, v, r, z, hp, mi, pot, m, Or.inl rfl, q1, q2, g, hm⟩
  by_cases A1 : A = 1
  · subst A1
    by_cases B0 : B = 0
    · subst B0
      by_cases T9 : 10 ≤ T
      · refine fail ?_ ?_
        · simp (decide := true) (disch := omega) only [sucX, gz100, lt_e, e1, e0, le10, T9, ↓reduceIte]
        · simp (decide := true) (disch := omega) only [sucM, f_X6_changes, gz100, lt_e, e1, e0, le10, T9, bd_s, gb0, ↓reduceIte]
      · obtain ⟨b, v', r', z', hp', mi', pot', m', hb, q1, q2, g', hm'⟩ := months g hm r (show T ≤ 9 by omega) (th := th) (past := past) (pm := pm) (sl := sl) (sv := sv) (sp := sp) (tx := tx) (ty := ty) (hp := hp) (mi := mi) (pot := pot) (rd := rd) (spt := spt) (wr := wr)
        refine ⟨b, v', r', z', hp', mi', pot', m', hb, ?_, ?_, g', hm'⟩
        · rcases hb with rfl | rfl <;> simp (decide := true) (disch := omega) only [sucX, gz100, lt_e, e1, e0, le10, T9, q1, bd_s, ↓reduceIte]
        · rcases hb with rfl | rfl <;> simp (decide := true) (disch := omega) only [sucM, f_X6_changes, gz100, lt_e, e1, e0, le10, T9, q2, bd_s, gb0, gb1, ↓reduceIte]
    · have nB : ¬ nI B = (0:Int32) := fun q => B0 ((eq0 (by omega)).mp q)
      refine fail ?_ ?_
      · simp (decide := true) (disch := omega) only [sucX, gz100, lt_e, e1, nB, ↓reduceIte]
      · simp (decide := true) (disch := omega) only [sucM, f_X6_changes, gz100, lt_e, e1, nB, bd_s, gb0, ↓reduceIte]
  · have nA1 : ¬ nI A = (1:Int32) := fun q => A1 ((eq1 (by omega)).mp q)
    rcases mem_or (nI B) hc with ⟨B', hB, e⟩ | hn
    · have e : B = B' := (nI_inj (by omega) (by omega)).mp e
      subst e
      obtain ⟨m1, m2, m3⟩ := g.yes (th := th) (past := past) (pm := pm) (sl := sl) (sv := sv) (sp := sp) (tx := tx) (ty := ty) (hp := hp) (mi := mi) (pot := pot) (rd := rd) (spt := spt) (wr := wr) hB
      rcases (show A = 0 ∨ A = 2 ∨ A = 3 ∨ A = 4 ∨ A = 5 ∨ A = 6 ∨ A = 7 ∨ A = 8 ∨ A = 9 by omega) with rfl | rfl | rfl | rfl | rfl | rfl | rfl | rfl | rfl
      · refine fail ?_ ?_
        · simp (decide := true) (disch := omega) only [sucX, gz100, lt_e, e0, m3, bd_s, ↓reduceIte]
        · simp (decide := true) (disch := omega) only [sucM, gz100, lt_e, e0, ↓reduceIte]
      · obtain ⟨b, v', z', hb, q1, q2, g'⟩ := cm_bid g hB hT9 (nI C) (th := th) (past := past) (pm := pm) (sl := sl) (sv := sv) (sp := sp) (tx := tx) (ty := ty) (hp := hp) (mi := mi) (pot := pot) (rd := rd) (spt := spt) (wr := wr)
        refine ⟨b, v', r, z', hp, mi, pot, m, hb, ?_, ?_, g', hm⟩
        · rcases hb with rfl | rfl <;> simp (decide := true) (disch := omega) only [sucX, gz100, lt_e, e2, m3, q1, bd_s, gb0, gb1, ↓reduceIte]
        · rcases hb with rfl | rfl <;> simp (decide := true) (disch := omega) only [sucM, gz100, lt_e, e2, q2, bd_s, gb0, gb1, ↓reduceIte]
      · by_cases hD : T % 100 = 0
        · obtain ⟨b, v', z', hb, q1, q2, g'⟩ := cm_guar g hB hC9 hT9 hD (th := th) (past := past) (pm := pm) (sl := sl) (sv := sv) (sp := sp) (tx := tx) (ty := ty) (hp := hp) (mi := mi) (pot := pot) (rd := rd) (spt := spt) (wr := wr)
          refine ⟨b, v', r, z', hp, mi, pot, m, hb, ?_, ?_, g', hm⟩
          · rcases hb with rfl | rfl <;> simp (decide := true) (disch := omega) only [sucX, gz100, lt_e, hD, e3, e0, m3, q1, bd_s, ↓reduceIte]
          · rcases hb with rfl | rfl <;> simp (decide := true) (disch := omega) only [sucM, gz100, lt_e, e3, q2, bd_s, gb0, gb1, ↓reduceIte]
        · have nD : ¬ nI (T % 100) = (0:Int32) := fun q => hD ((eq0 (by omega)).mp q)
          have dE : nI T - nI T / (100:Int32) * (100:Int32) = nI (T % 100) := nI_rem (b := 100) (by omega) (by omega)
          refine fail ?_ ?_
          · simp (decide := true) (disch := omega) only [sucX, gz100, lt_e, e3, m3, nD, bd_s, ↓reduceIte]
          · simp (decide := true) (disch := omega) only [sucM, f_X6_changes, gz100, lt_e, dE, zlt, show 0 < T % 100 by omega, e3, bd_s, gb0, ↓reduceIte]
      · by_cases hD : T % 100 = 0
        · by_cases hC1 : 1 < C
          · have dE : nI T - nI T / (100:Int32) * (100:Int32) = nI 0 := by rw [← hD]; exact nI_rem (b := 100) (by omega) (by omega)
            refine fail ?_ ?_
            · simp (decide := true) (disch := omega) only [sucX, gz100, lt_e, hD, e4, e0, m3, olt, hC1, bd_s, ↓reduceIte]
            · simp (decide := true) (disch := omega) only [sucM, f_X6_changes, gz100, lt_e, dE, e4, e0, olt, hC1, bd_s, gb0, ↓reduceIte]
          · obtain ⟨v', z', q1, q2, g'⟩ := cm_mark g hB (show C = 0 ∨ C = 1 by omega) hT9 hD (th := th) (past := past) (pm := pm) (sl := sl) (sv := sv) (sp := sp) (tx := tx) (ty := ty) (hp := hp) (mi := mi) (pot := pot) (rd := rd) (spt := spt) (wr := wr)
            refine ⟨1, v', r, z', hp, mi, pot, m, Or.inr rfl, ?_, ?_, g', hm⟩
            · rcases (show C = 0 ∨ C = 1 by omega) with rfl | rfl
              · rw [e0] at q1
                simp (decide := true) (disch := omega) only [sucX, gz100, lt_e, hD, e4, e0, m3, q1, bd_s, ↓reduceIte]
              · rw [e1] at q1
                simp (decide := true) (disch := omega) only [sucX, gz100, lt_e, hD, e4, e0, e1, m3, q1, bd_s, ↓reduceIte]
            · simp (decide := true) (disch := omega) only [sucM, gz100, lt_e, e4, q2, bd_s, gb1, ↓reduceIte]
        · have nD : ¬ nI (T % 100) = (0:Int32) := fun q => hD ((eq0 (by omega)).mp q)
          have dE : nI T - nI T / (100:Int32) * (100:Int32) = nI (T % 100) := nI_rem (b := 100) (by omega) (by omega)
          refine fail ?_ ?_
          · simp (decide := true) (disch := omega) only [sucX, gz100, lt_e, e4, m3, nD, bd_s, ↓reduceIte]
          · simp (decide := true) (disch := omega) only [sucM, f_X6_changes, gz100, lt_e, dE, zlt, show 0 < T % 100 by omega, e4, bd_s, gb0, ↓reduceIte]
      · obtain ⟨b, v', z', hb, q1, q2, g'⟩ := cm_gift g hB hT9 (nI C) (th := th) (past := past) (pm := pm) (sl := sl) (sv := sv) (sp := sp) (tx := tx) (ty := ty) (hp := hp) (mi := mi) (pot := pot) (rd := rd) (spt := spt) (wr := wr)
        refine ⟨b, v', r, z', hp, mi, pot, m, hb, ?_, ?_, g', hm⟩
        · rcases hb with rfl | rfl <;> simp (decide := true) (disch := omega) only [sucX, gz100, lt_e, e5, m3, q1, bd_s, gb0, gb1, ↓reduceIte]
        · rcases hb with rfl | rfl <;> simp (decide := true) (disch := omega) only [sucM, gz100, lt_e, e5, q2, bd_s, gb0, gb1, ↓reduceIte]
      · by_cases hT0 : T = 0
        · subst hT0
          obtain ⟨b, v', z', hb, q1, q2, g'⟩ := cm_go g hB (nI C) (th := th) (past := past) (pm := pm) (sl := sl) (sv := sv) (sp := sp) (tx := tx) (ty := ty) (hp := hp) (mi := mi) (pot := pot) (rd := rd) (spt := spt) (wr := wr)
          refine ⟨b, v', r, z', hp, mi, pot, m, hb, ?_, ?_, g', hm⟩
          · rcases hb with rfl | rfl <;> simp (decide := true) (disch := omega) only [sucX, gz100, lt_e, e6, e0, m3, q1, bd_s, ↓reduceIte]
          · rcases hb with rfl | rfl <;> simp (decide := true) (disch := omega) only [sucM, gz100, lt_e, e6, e0, q2, bd_s, gb0, gb1, ↓reduceIte]
        · have nT : ¬ nI T = (0:Int32) := fun q => hT0 ((eq0 (by omega)).mp q)
          refine fail ?_ ?_
          · simp (decide := true) (disch := omega) only [sucX, gz100, lt_e, e6, m3, nT, bd_s, ↓reduceIte]
          · simp (decide := true) (disch := omega) only [sucM, f_X6_changes, gz100, lt_e, zlt, show 0 < T by omega, e6, bd_s, gb0, ↓reduceIte]
      · have hp7 := g.purse hB
        by_cases q : St_purse v B < nI T
        · refine fail ?_ ?_
          · simp (decide := true) (disch := omega) only [sucX, gz100, lt_e, e7, m3, q, gi_ok, nI_clamp, bd_s, ↓reduceIte]
          · simp (decide := true) (disch := omega) only [sucM, gz100, lt_e, e7, m2, St_count, St_month, St_contribution, St_box, St_given, St_purse, St_guarantor, St_bid, St_away, St_taken, St_inside, St_paidForItself, St_paidForOthers, St_gotOfPot, St_shares, St_misses, St_debt, St_count_s, St_month_s, St_contribution_s, St_box_s, St_given_s, St_purse_s, St_guarantor_s, St_bid_s, St_away_s, St_taken_s, St_inside_s, St_paidForItself_s, St_paidForOthers_s, St_gotOfPot_s, St_shares_s, St_misses_s, St_debt_s, Rd_paid, Rd_missing, Rd_pence, Rd_paid_s, Rd_missing_s, Rd_pence_s, Md_thrown, Md_z, Md_past, Md_pastMany, Md_slots, Md_isSaved, Md_spare, Md_text, Md_typed, Md_hasPaid, Md_misses, Md_potNow, Md_read, Md_spot, Md_wrong, Md_thrown_s, Md_z_s, Md_past_s, Md_pastMany_s, Md_slots_s, Md_isSaved_s, Md_spare_s, Md_text_s, Md_typed_s, Md_hasPaid_s, Md_misses_s, Md_potNow_s, Md_read_s, Md_spot_s, Md_wrong_s, a5, gi_ok, nI_clamp, hp7, q, bd_s, ↓reduceIte]
        · refine ⟨1, v, r, z, hp, mi, pot, m, Or.inr rfl, ?_, ?_, g, hm⟩
          · simp (decide := true) (disch := omega) only [sucX, gz100, lt_e, e7, m3, q, gi_ok, nI_clamp, bd_s, ↓reduceIte]
          · simp (decide := true) (disch := omega) only [sucM, gz100, lt_e, e7, m2, St_count, St_month, St_contribution, St_box, St_given, St_purse, St_guarantor, St_bid, St_away, St_taken, St_inside, St_paidForItself, St_paidForOthers, St_gotOfPot, St_shares, St_misses, St_debt, St_count_s, St_month_s, St_contribution_s, St_box_s, St_given_s, St_purse_s, St_guarantor_s, St_bid_s, St_away_s, St_taken_s, St_inside_s, St_paidForItself_s, St_paidForOthers_s, St_gotOfPot_s, St_shares_s, St_misses_s, St_debt_s, Rd_paid, Rd_missing, Rd_pence, Rd_paid_s, Rd_missing_s, Rd_pence_s, Md_thrown, Md_z, Md_past, Md_pastMany, Md_slots, Md_isSaved, Md_spare, Md_text, Md_typed, Md_hasPaid, Md_misses, Md_potNow, Md_read, Md_spot, Md_wrong, Md_thrown_s, Md_z_s, Md_past_s, Md_pastMany_s, Md_slots_s, Md_isSaved_s, Md_spare_s, Md_text_s, Md_typed_s, Md_hasPaid_s, Md_misses_s, Md_potNow_s, Md_read_s, Md_spot_s, Md_wrong_s, a5, gi_ok, nI_clamp, hp7, q, bd_s, ↓reduceIte]
      · have dE : nI T - nI T / (100:Int32) * (100:Int32) = nI (T % 100) := nI_rem (b := 100) (by omega) (by omega)
        rcases mem_or (nI C) hc with ⟨C', hC, e⟩ | hnc
        · have e : C = C' := (nI_inj (by omega) (by omega)).mp e
          subst e
          obtain ⟨n1, n2, n3⟩ := g.yes (th := th) (past := past) (pm := pm) (sl := sl) (sv := sv) (sp := sp) (tx := tx) (ty := ty) (hp := hp) (mi := mi) (pot := pot) (rd := rd) (spt := spt) (wr := wr) hC
          by_cases hbc : B = C
          · subst hbc
            refine fail ?_ ?_
            · simp (decide := true) (disch := omega) only [sucX, f_X2_owesAtMost, gz100, lt_e, e8, m3, bd_s, gb0, ↓reduceIte]
            · simp (decide := true) (disch := omega) only [sucM, gz100, lt_e, e8, m2, bd_s, ↓reduceIte]
          · have hne : ¬ nI B = nI C := fun q => hbc ((nI_inj (by omega) (by omega)).mp q)
            have hde : z (93 + 8 * B + C) = St_debt v (B * 8 + C) := by
              obtain ⟨mo, co, bo, gv, pu, gu, bi, aw, ta, ins, pf, po, go, sh, ms, de, rfl, rfl, ok⟩ := g
              exact E_de (by omega) (by omega)
            have pr : f_X3_pair (nI B) (nI C) = some (nI (B * 8 + C), ()) := by
              simp only [f_X3_pair, mul8, q_add]
            have ix : (93:Int32) + (8:Int32) * nI B + nI C = nI (93 + 8 * B + C) := by
              rw [mul8r, a93, q_add]
            by_cases q : nI (T % 100) < St_debt v (B * 8 + C)
            · refine fail ?_ ?_
              · simp (decide := true) (disch := omega) only [sucX, f_X2_owesAtMost, gz100, lt_e, e8, m3, n3, hne, pr, gi_ok, nI_clamp, q, bd_s, gb0, ↓reduceIte]
              · simp (decide := true) (disch := omega) only [sucM, gz100, lt_e, e8, m2, n2, hne, ix, gi_ok, nI_clamp, St_count, St_month, St_contribution, St_box, St_given, St_purse, St_guarantor, St_bid, St_away, St_taken, St_inside, St_paidForItself, St_paidForOthers, St_gotOfPot, St_shares, St_misses, St_debt, St_count_s, St_month_s, St_contribution_s, St_box_s, St_given_s, St_purse_s, St_guarantor_s, St_bid_s, St_away_s, St_taken_s, St_inside_s, St_paidForItself_s, St_paidForOthers_s, St_gotOfPot_s, St_shares_s, St_misses_s, St_debt_s, Rd_paid, Rd_missing, Rd_pence, Rd_paid_s, Rd_missing_s, Rd_pence_s, Md_thrown, Md_z, Md_past, Md_pastMany, Md_slots, Md_isSaved, Md_spare, Md_text, Md_typed, Md_hasPaid, Md_misses, Md_potNow, Md_read, Md_spot, Md_wrong, Md_thrown_s, Md_z_s, Md_past_s, Md_pastMany_s, Md_slots_s, Md_isSaved_s, Md_spare_s, Md_text_s, Md_typed_s, Md_hasPaid_s, Md_misses_s, Md_potNow_s, Md_read_s, Md_spot_s, Md_wrong_s, hde, dE, q, bd_s, ↓reduceIte]
            · refine ⟨1, v, r, z, hp, mi, pot, m, Or.inr rfl, ?_, ?_, g, hm⟩
              · simp (decide := true) (disch := omega) only [sucX, f_X2_owesAtMost, gz100, lt_e, e8, m3, n3, hne, pr, gi_ok, nI_clamp, q, bd_s, gb1, ↓reduceIte]
              · simp (decide := true) (disch := omega) only [sucM, gz100, lt_e, e8, m2, n2, hne, ix, gi_ok, nI_clamp, St_count, St_month, St_contribution, St_box, St_given, St_purse, St_guarantor, St_bid, St_away, St_taken, St_inside, St_paidForItself, St_paidForOthers, St_gotOfPot, St_shares, St_misses, St_debt, St_count_s, St_month_s, St_contribution_s, St_box_s, St_given_s, St_purse_s, St_guarantor_s, St_bid_s, St_away_s, St_taken_s, St_inside_s, St_paidForItself_s, St_paidForOthers_s, St_gotOfPot_s, St_shares_s, St_misses_s, St_debt_s, Rd_paid, Rd_missing, Rd_pence, Rd_paid_s, Rd_missing_s, Rd_pence_s, Md_thrown, Md_z, Md_past, Md_pastMany, Md_slots, Md_isSaved, Md_spare, Md_text, Md_typed, Md_hasPaid, Md_misses, Md_potNow, Md_read, Md_spot, Md_wrong, Md_thrown_s, Md_z_s, Md_past_s, Md_pastMany_s, Md_slots_s, Md_isSaved_s, Md_spare_s, Md_text_s, Md_typed_s, Md_hasPaid_s, Md_misses_s, Md_potNow_s, Md_read_s, Md_spot_s, Md_wrong_s, hde, dE, q, bd_s, ↓reduceIte]
        · obtain ⟨n1, n2, n3⟩ := g.no (th := th) (past := past) (pm := pm) (sl := sl) (sv := sv) (sp := sp) (tx := tx) (ty := ty) (hp := hp) (mi := mi) (pot := pot) (rd := rd) (spt := spt) (wr := wr) hnc
          refine fail ?_ ?_
          · simp (decide := true) (disch := omega) only [sucX, f_X2_owesAtMost, gz100, lt_e, e8, m3, n3, bd_s, gb0, ↓reduceIte]
          · simp (decide := true) (disch := omega) only [sucM, gz100, lt_e, e8, m2, n2, bd_s, ↓reduceIte]
      · by_cases hT0 : T = 0
        · subst hT0
          obtain ⟨t1, t2⟩ := g.tak hB
          rcases t2 with t2 | t2
          · have t1 : z (37 + B) = 0 := t1.trans t2
            refine fail ?_ ?_
            · simp (decide := true) (disch := omega) only [sucX, gz100, lt_e, e9, e0, m3, t2, gi_ok, nI_clamp, bd_s, ↓reduceIte]
            · simp (decide := true) (disch := omega) only [sucM, gz100, lt_e, e9, e0, m2, St_count, St_month, St_contribution, St_box, St_given, St_purse, St_guarantor, St_bid, St_away, St_taken, St_inside, St_paidForItself, St_paidForOthers, St_gotOfPot, St_shares, St_misses, St_debt, St_count_s, St_month_s, St_contribution_s, St_box_s, St_given_s, St_purse_s, St_guarantor_s, St_bid_s, St_away_s, St_taken_s, St_inside_s, St_paidForItself_s, St_paidForOthers_s, St_gotOfPot_s, St_shares_s, St_misses_s, St_debt_s, Rd_paid, Rd_missing, Rd_pence, Rd_paid_s, Rd_missing_s, Rd_pence_s, Md_thrown, Md_z, Md_past, Md_pastMany, Md_slots, Md_isSaved, Md_spare, Md_text, Md_typed, Md_hasPaid, Md_misses, Md_potNow, Md_read, Md_spot, Md_wrong, Md_thrown_s, Md_z_s, Md_past_s, Md_pastMany_s, Md_slots_s, Md_isSaved_s, Md_spare_s, Md_text_s, Md_typed_s, Md_hasPaid_s, Md_misses_s, Md_potNow_s, Md_read_s, Md_spot_s, Md_wrong_s, a37, gi_ok, nI_clamp, t1, bd_s, ↓reduceIte]
          · have t1 : z (37 + B) = 1 := t1.trans t2
            refine ⟨1, v, r, z, hp, mi, pot, m, Or.inr rfl, ?_, ?_, g, hm⟩
            · simp (decide := true) (disch := omega) only [sucX, gz100, lt_e, e9, e0, m3, t2, gi_ok, nI_clamp, bd_s, ↓reduceIte]
            · simp (decide := true) (disch := omega) only [sucM, gz100, lt_e, e9, e0, m2, St_count, St_month, St_contribution, St_box, St_given, St_purse, St_guarantor, St_bid, St_away, St_taken, St_inside, St_paidForItself, St_paidForOthers, St_gotOfPot, St_shares, St_misses, St_debt, St_count_s, St_month_s, St_contribution_s, St_box_s, St_given_s, St_purse_s, St_guarantor_s, St_bid_s, St_away_s, St_taken_s, St_inside_s, St_paidForItself_s, St_paidForOthers_s, St_gotOfPot_s, St_shares_s, St_misses_s, St_debt_s, Rd_paid, Rd_missing, Rd_pence, Rd_paid_s, Rd_missing_s, Rd_pence_s, Md_thrown, Md_z, Md_past, Md_pastMany, Md_slots, Md_isSaved, Md_spare, Md_text, Md_typed, Md_hasPaid, Md_misses, Md_potNow, Md_read, Md_spot, Md_wrong, Md_thrown_s, Md_z_s, Md_past_s, Md_pastMany_s, Md_slots_s, Md_isSaved_s, Md_spare_s, Md_text_s, Md_typed_s, Md_hasPaid_s, Md_misses_s, Md_potNow_s, Md_read_s, Md_spot_s, Md_wrong_s, a37, gi_ok, nI_clamp, t1, bd_s, ↓reduceIte]
        · have nT : ¬ nI T = (0:Int32) := fun q => hT0 ((eq0 (by omega)).mp q)
          refine fail ?_ ?_
          · simp (decide := true) (disch := omega) only [sucX, gz100, lt_e, e9, m3, nT, bd_s, ↓reduceIte]
          · simp (decide := true) (disch := omega) only [sucM, gz100, lt_e, e9, m2, nT, bd_s, ↓reduceIte]
    · obtain ⟨m1, m2, m3⟩ := g.no (th := th) (past := past) (pm := pm) (sl := sl) (sv := sv) (sp := sp) (tx := tx) (ty := ty) (hp := hp) (mi := mi) (pot := pot) (rd := rd) (spt := spt) (wr := wr) hn
      refine fail ?_ ?_
      · rw [sucX, if_neg nA1, m3, bd_s, if_pos rfl]
      · by_cases A0 : A = 0
        · subst A0
          simp (decide := true) (disch := omega) only [sucM, gz100, lt_e, e0, ↓reduceIte]
        · have nA0 : ¬ nI A = (0:Int32) := fun q => A0 ((eq0 (by omega)).mp q)
          by_cases A7 : 7 ≤ A
          · have l7 : (7:Int32) ≤ nI A := (nI_lei (a := 7) (by omega) (by omega)).mpr A7
            simp (decide := true) (disch := omega) only [sucM, gz100, lt_e, nA0, l7, m2, bd_s, ↓reduceIte]
          · have l7 : ¬ (7:Int32) ≤ nI A := fun q => A7 ((nI_lei (a := 7) (by omega) (by omega)).mp q)
            have cn := cmd_none g hn (nI C) hT9 (A := nI A) (by
              rcases (show A = 2 ∨ A = 3 ∨ A = 4 ∨ A = 5 ∨ A = 6 by omega) with rfl | rfl | rfl | rfl | rfl
              · exact Or.inl rfl
              · exact Or.inr (Or.inl rfl)
              · exact Or.inr (Or.inr (Or.inl rfl))
              · exact Or.inr (Or.inr (Or.inr (Or.inl rfl)))
              · exact Or.inr (Or.inr (Or.inr (Or.inr rfl)))) (th := th) (past := past) (pm := pm) (sl := sl) (sv := sv) (sp := sp) (tx := tx) (ty := ty) (hp := hp) (mi := mi) (pot := pot) (rd := rd) (spt := spt) (wr := wr)
            simp (decide := true) (disch := omega) only [sucM, gz100, lt_e, nA0, l7, cn, bd_s, gb0, ↓reduceIte]
end SCR
