/-! floats: numbers c * 2^-Q with c of 24 digits. (This part names the library's laws of floats, so every part is read over the whole library.) -/
def Pg (x : UInt32) (c Q : Nat) : Prop := FP.Core.val32 x = FP.Core.Datum.fin false c (-(Q : Int)) ∧ 8388608 ≤ c ∧ c < 16777216 ∧ Q ≤ 100
theorem fl_p : FP.Core.b32.p = 24 := rfl
theorem fl_qmin : FP.Core.b32.qmin = -149 := FP.Core.qmin_b32
theorem fl_qmax : FP.Core.b32.qmax = 104 := by decide
theorem fl_tails : FP.Core.b32.tails = 8388608 := by rw [FP.Core.tails_b32]
theorem fl_fits {c Q : Nat} (h1 : 8388608 ≤ c) (h2 : c < 16777216) (h3 : Q ≤ 100) : FP.Core.fits FP.Core.b32 (FP.Core.Datum.fin false c (-(Q : Int))) := by
  refine ⟨?_, ?_, ?_, Or.inr ?_⟩
  · rw [fl_p]; omega
  · rw [fl_qmin]; omega
  · rw [fl_qmax]; omega
  · rw [fl_tails]; exact h1
theorem fl_c2 : FP.Core.val32 FP.fconst2 = FP.Core.Datum.fin false 8388608 (-22) := by decide +kernel
theorem fl_c1 : FP.Core.val32 FP.fconst1 = FP.Core.Datum.fin false 8388608 (-23) := by decide +kernel
theorem fl_cb : FP.Core.val32 (1258291200:UInt32) = FP.Core.Datum.fin false 8388608 (-0) := by decide +kernel
theorem fl_mul {x y : UInt32} {c Q R : Nat} {r : Int} (h : Pg x c Q) (hy : FP.Core.val32 y = FP.Core.Datum.fin false 8388608 r) (hR : (R : Int) = Q - 23 - r) (hR2 : R ≤ 100) : Pg (FP.fmul x y) c R := by
  obtain ⟨h1, h2, h3, h4⟩ := h
  refine ⟨?_, h2, h3, hR2⟩
  have e := FP.Core.val32_fmul x y
  rw [h1, hy] at e
  refine e.trans ?_
  show FP.Core.roundRatio FP.Core.b32 false (c * 8388608) 1 (-(Q : Int) + r) = _
  refine FP.Core.roundRatio_exact FP.Core.good_b32 (by decide) (fl_fits h2 h3 hR2) ?_
  rw [show ((-(Q : Int) + r) - (-(R : Int))).toNat = 0 by omega, show ((-(R : Int)) - (-(Q : Int) + r)).toNat = 23 by omega]
  omega
theorem fl_div2 {x : UInt32} {c Q : Nat} (h : Pg x c Q) (hQ : Q + 1 ≤ 100) : Pg (FP.fdiv x FP.fconst2) c (Q + 1) := by
  obtain ⟨h1, h2, h3, h4⟩ := h
  refine ⟨?_, h2, h3, hQ⟩
  have e := FP.Core.val32_fdiv x FP.fconst2
  rw [h1, fl_c2] at e
  refine e.trans ?_
  show FP.Core.roundRatio FP.Core.b32 false c 8388608 (-(Q : Int) - (-22)) = _
  refine FP.Core.roundRatio_exact FP.Core.good_b32 (by decide) (fl_fits h2 h3 hQ) ?_
  rw [show ((-(Q : Int) - (-22)) - (-((Q + 1 : Nat) : Int))).toNat = 23 by omega, show ((-((Q + 1 : Nat) : Int)) - (-(Q : Int) - (-22))).toNat = 0 by omega]
  omega
theorem fl_mul2 {x : UInt32} {c Q : Nat} (h : Pg x c (Q + 1)) : Pg (FP.fmul x FP.fconst2) c Q := by
  have h4 := h.2.2.2
  exact fl_mul h fl_c2 (by omega) (by omega)
theorem fl_mulb {x : UInt32} {c : Nat} (h : Pg x c 23) : Pg (FP.fmul x (1258291200:UInt32)) c 0 := fl_mul h fl_cb (by omega) (by omega)
theorem fl_cmp {x y : UInt32} {c Q R : Nat} (h : Pg x c Q) (hy : FP.Core.val32 y = FP.Core.Datum.fin false 8388608 (-(R : Int))) (op : CmpOp) : (R < Q → Op.cmpValue (FP.fcmp x y) op = -1) ∧ (Q ≤ R → Op.cmpValue (FP.fcmp x y) op = 0 ∨ Op.cmpValue (FP.fcmp x y) op = 1) := by
  obtain ⟨h1, h2, h3, h4⟩ := h
  have e : FP.fcmp x y = FP.Core.order (FP.Core.val32 x) (FP.Core.val32 y) := rfl
  rw [h1, hy] at e
  have e : FP.fcmp x y = some (compare ((c * 2 ^ (-(Q : Int) - min (-(Q : Int)) (-(R : Int))).toNat : Nat) : Int) ((8388608 * 2 ^ (-(R : Int) - min (-(Q : Int)) (-(R : Int))).toNat : Nat) : Int)) := e
  rw [FP.Core.compare_ite] at e
  constructor
  · intro hq
    rw [show (-(Q : Int) - min (-(Q : Int)) (-(R : Int))).toNat = 0 by omega, show (-(R : Int) - min (-(Q : Int)) (-(R : Int))).toNat = (Q - R - 1) + 1 by omega, Nat.pow_succ] at e
    have p := Nat.two_pow_pos (Q - R - 1)
    generalize 2 ^ (Q - R - 1) = k at e p
    rw [if_pos (by omega)] at e
    rw [e]; rfl
  · intro hq
    rw [show (-(Q : Int) - min (-(Q : Int)) (-(R : Int))).toNat = R - Q by omega, show (-(R : Int) - min (-(Q : Int)) (-(R : Int))).toNat = 0 by omega] at e
    have p := Nat.two_pow_pos (R - Q)
    have p2 : 8388608 ≤ c * 2 ^ (R - Q) := Nat.le_trans h2 (Nat.le_mul_of_pos_right _ p)
    generalize c * 2 ^ (R - Q) = k at e p2
    rw [if_neg (by omega)] at e
    by_cases hk : (k : Int) = ((8388608 * 2 ^ 0 : Nat) : Int)
    · rw [if_pos hk] at e
      rw [e]; exact Or.inl rfl
    · rw [if_neg hk] at e
      rw [e]; exact Or.inr rfl
theorem fl_toI {x : UInt32} {c : Nat} (h : Pg x c 0) : FP.f2i x = nI c := by
  obtain ⟨h1, h2, h3, h4⟩ := h
  have e : FP.f2i x = FP.Core.toI (FP.Core.val32 x) := rfl
  rw [h1] at e
  rw [e]
  have q : FP.Core.truncate false c (-((0:Nat):Int)) = (c : Int) := by
    show ((c * 2 ^ 0 / 2 ^ 0 : Nat) : Int) = c
    rw [Nat.pow_zero, Nat.mul_one, Nat.div_one]
  unfold FP.Core.toI FP.Core.toInt
  simp only [q]
  rw [show max (-2 ^ 31) (min (2 ^ 31 - 1) (c : Int)) = (c : Int) by omega]
  rfl
theorem fl_ok {x : UInt32} (h : FP.Core.val32 x ≠ FP.Core.Datum.nan) : x &&& 0x7fffffff ≤ 0x7f800000 := by
  rw [FP.Core.ne_nan32] at h
  rw [UInt32.le_iff_toNat_le, UInt32.toNat_and, show (0x7fffffff : UInt32).toNat = 2 ^ 31 - 1 from rfl, Nat.and_two_pow_sub_one_eq_mod]
  exact h
theorem fl_num {x : UInt32} {c Q : Nat} (h : Pg x c Q) : x &&& 0x7fffffff ≤ 0x7f800000 := fl_ok (by rw [h.1]; exact fun q => FP.Core.Datum.noConfusion q)
theorem fl_int {a : Nat} (h1 : 1 ≤ a) (h2 : a ≤ 131072) : ∃ c n : Nat, FP.Core.val32 (FP.i2f (nI a)) = FP.Core.Datum.fin false c (-(n : Int)) ∧ c = a * 2 ^ n := by
  have ht : (nI a).toInt = (a : Int) := nI_toInt (by omega)
  have w : FP.Core.Whole (nI a).toInt (FP.Core.val32 (FP.i2f (nI a))) := FP.Core.i2f_int (by rw [ht]; omega)
  have f := FP.Core.val32_fits (FP.i2f (nI a))
  rw [ht] at w
  cases hv : FP.Core.val32 (FP.i2f (nI a)) with
  | nan => rw [hv] at w; exact w.elim
  | inf s => rw [hv] at w; exact w.elim
  | fin s c q =>
    rw [hv] at w f
    have hs := FP.Core.whole_sign w (by omega)
    have hc := FP.Core.whole_natAbs w
    rw [show ((a : Int)).natAbs = a from rfl] at hc
    have hs : s = false := by rw [hs]; exact decide_eq_false (by omega)
    subst hs
    obtain ⟨f1, f2, f3, f4⟩ := f
    rw [fl_qmin, fl_tails] at f4
    have hq : q ≤ 0 := by
      by_cases hq : q ≤ 0
      · exact hq
      · exfalso
        rw [show (-q).toNat = 0 by omega] at hc
        have p := Nat.two_pow_pos q.toNat
        have p2 : c ≤ c * 2 ^ q.toNat := Nat.le_mul_of_pos_right _ p
        omega
    refine ⟨c, (-q).toNat, ?_, ?_⟩
    · rw [show -(((-q).toNat : Nat) : Int) = q by omega]
    · rw [show q.toNat = 0 by omega] at hc
      omega
theorem fl_ratio {a b : Nat} (ha : 1 ≤ a) (ha2 : a ≤ 131072) (hb : 1 ≤ b) (hb2 : b ≤ 131072) : ∃ c Q : Nat, FP.Core.roundRatio FP.Core.b32 false a b 0 = FP.Core.Datum.fin false c (-(Q : Int)) ∧ 8388608 ≤ c ∧ c < 16777216 ∧ 4 ≤ Q ∧ Q ≤ 41 := by
  have L := FP.Core.leading_spec (A := a) (B := b) (by omega) (by omega)
  have l1 : -18 ≤ FP.Core.leading a b := by
    by_cases h : -18 ≤ FP.Core.leading a b
    · exact h
    · exfalso
      have q := FP.Core.below_mono (show FP.Core.leading a b + 1 ≤ -17 by omega) L.2
      have q : a * 2 ^ 17 < b * 2 ^ 0 := q
      omega
  have l2 : FP.Core.leading a b ≤ 17 := by
    by_cases h : FP.Core.leading a b ≤ 17
    · exact h
    · exfalso
      refine L.1 (FP.Core.below_mono (show (18:Int) ≤ FP.Core.leading a b by omega) ?_)
      show a * 2 ^ 0 < b * 2 ^ 18
      omega
  have hq : FP.Core.quantum FP.Core.b32 a b 0 = FP.Core.leading a b - 23 := by
    unfold FP.Core.quantum
    rw [fl_qmin, fl_p]
    omega
  have F := FP.Core.roundRatio_fits FP.Core.good_b32 false a (B := b) (by omega) 0
  unfold FP.Core.roundRatio at F ⊢
  rw [if_neg (by omega)] at F ⊢
  rw [hq] at F ⊢
  unfold FP.Core.roundAt FP.Core.settle FP.Core.bound at F ⊢
  generalize FP.Core.nearest (FP.Core.unitsNum a 0 (FP.Core.leading a b - 23)) (FP.Core.unitsDen b 0 (FP.Core.leading a b - 23)) = n at F ⊢
  by_cases h1 : n < 2 ^ FP.Core.b32.p
  · rw [if_pos h1, if_pos (by rw [fl_qmax]; omega)] at F ⊢
    obtain ⟨f1, f2, f3, f4⟩ := F
    rw [fl_qmin, fl_tails] at f4
    rw [fl_p] at f1
    exact ⟨n, (23 - FP.Core.leading a b).toNat, by rw [show -(((23 - FP.Core.leading a b).toNat : Nat) : Int) = FP.Core.leading a b - 23 by omega], by omega, by omega, by omega, by omega⟩
  · rw [if_neg h1, if_pos (by rw [fl_qmax]; omega)] at ⊢
    exact ⟨FP.Core.b32.tails, (22 - FP.Core.leading a b).toNat, by rw [show -(((22 - FP.Core.leading a b).toNat : Nat) : Int) = FP.Core.leading a b - 23 + 1 by omega], by rw [fl_tails]; omega, by rw [fl_tails]; omega, by omega, by omega⟩
theorem fl_div {a b : Nat} (ha : 1 ≤ a) (ha2 : a ≤ 131072) (hb : 1 ≤ b) (hb2 : b ≤ 131072) : ∃ c Q : Nat, Pg (FP.fdiv (FP.i2f (nI a)) (FP.i2f (nI b))) c Q ∧ 4 ≤ Q ∧ Q ≤ 41 := by
  obtain ⟨c1, n1, a1, a2⟩ := fl_int ha ha2
  obtain ⟨c2, n2, b1, b2⟩ := fl_int hb hb2
  obtain ⟨c, Q, e, q1, q2, q3, q4⟩ := fl_ratio ha ha2 hb hb2
  refine ⟨c, Q, ⟨?_, q1, q2, by omega⟩, q3, q4⟩
  have w := FP.Core.val32_fdiv (FP.i2f (nI a)) (FP.i2f (nI b))
  rw [a1, b1] at w
  refine w.trans ?_
  have p2 := Nat.two_pow_pos n2
  have hc2 : 0 < c2 := by rw [b2]; exact Nat.mul_pos hb p2
  unfold FP.Core.quotient
  simp only
  rw [if_neg (by omega)]
  refine Eq.trans (FP.Core.roundRatio_congr (A' := a) (B' := b) (e' := 0) hc2 (by omega) ?_) e
  rw [a2, b2, show ((-(n1 : Int) - -(n2 : Int)) - 0).toNat = n2 - n1 by omega, show (0 - (-(n1 : Int) - -(n2 : Int))).toNat = n1 - n2 by omega]
  have h1 : a * 2 ^ n1 * b * 2 ^ (n2 - n1) = a * b * 2 ^ (n1 + (n2 - n1)) := by rw [Nat.pow_add]; ac_rfl
  have h2 : a * (b * 2 ^ n2) * 2 ^ (n1 - n2) = a * b * 2 ^ (n2 + (n1 - n2)) := by rw [Nat.pow_add]; ac_rfl
  rw [h1, h2, show n1 + (n2 - n1) = n2 + (n1 - n2) by omega]
theorem fl_zero {b : Nat} (hb : 1 ≤ b) (hb2 : b ≤ 131072) : FP.Core.val32 (FP.fdiv (FP.i2f (nI 0)) (FP.i2f (nI b))) = FP.Core.Datum.fin false 0 (-149) := by
  obtain ⟨c2, n2, b1, b2⟩ := fl_int hb hb2
  have p2 := Nat.two_pow_pos n2
  have hc2 : 0 < c2 := by rw [b2]; exact Nat.mul_pos hb p2
  have w := FP.Core.val32_fdiv (FP.i2f (nI 0)) (FP.i2f (nI b))
  rw [b1, show FP.Core.val32 (FP.i2f (nI 0)) = FP.Core.Datum.fin false 0 (-149) by decide +kernel] at w
  refine w.trans ?_
  unfold FP.Core.quotient
  simp only
  rw [if_neg (by omega)]
  unfold FP.Core.roundRatio
  rw [if_pos rfl, fl_qmin]
  rfl
theorem fl_z {x : UInt32} (h : FP.Core.val32 x = FP.Core.Datum.fin false 0 (-149)) (op : CmpOp) : Op.cmpValue (FP.fcmp x FP.fconst0) op = 0 := by
  have e : FP.fcmp x FP.fconst0 = FP.Core.order (FP.Core.val32 x) (FP.Core.val32 FP.fconst0) := rfl
  rw [h, show FP.Core.val32 FP.fconst0 = FP.Core.Datum.fin false 0 (-149) by decide +kernel] at e
  rw [e]; rfl
theorem fl_pos {x : UInt32} {c Q : Nat} (h : Pg x c Q) (op : CmpOp) : Op.cmpValue (FP.fcmp x FP.fconst0) op = 1 := by
  obtain ⟨h1, h2, h3, h4⟩ := h
  have e : FP.fcmp x FP.fconst0 = FP.Core.order (FP.Core.val32 x) (FP.Core.val32 FP.fconst0) := rfl
  rw [h1, show FP.Core.val32 FP.fconst0 = FP.Core.Datum.fin false 0 (-149) by decide +kernel] at e
  have e : FP.fcmp x FP.fconst0 = some (compare ((c * 2 ^ (-(Q : Int) - min (-(Q : Int)) (-149)).toNat : Nat) : Int) ((0 * 2 ^ (-149 - min (-(Q : Int)) (-149)).toNat : Nat) : Int)) := e
  rw [FP.Core.compare_ite, Nat.zero_mul] at e
  have p := Nat.two_pow_pos (-(Q : Int) - min (-(Q : Int)) (-149)).toNat
  have p2 : 8388608 ≤ c * 2 ^ (-(Q : Int) - min (-(Q : Int)) (-149)).toNat := Nat.le_trans h2 (Nat.le_mul_of_pos_right _ p)
  generalize c * 2 ^ (-(Q : Int) - min (-(Q : Int)) (-149)).toNat = k at e p2
  rw [if_neg (by omega), if_neg (by omega)] at e
  rw [e]; rfl
