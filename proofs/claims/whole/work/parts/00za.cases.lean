/-! the law: each call of the script answers alike, and the two stay beside each other -/
abbrev St_0 : StV := (0, 0, 10, 0, 0, fun _ => 0, fun _ => 0, fun _ => 0, fun _ => 0, fun _ => 0, fun _ => 0, fun _ => 0, fun _ => 0, fun _ => 0, fun _ => 0, fun _ => 0, fun _ => 0)
abbrev Rd_0 : RdV := (fun _ => 0, fun _ => 0, 0)
abbrev Tx_0 : TxV := (fun _ => 0, 0, 0)
abbrev Pa_0 : PaV := (0, 0, fun _ => St_0)
abbrev Sl_0 : SlV := fun _ => 0
abbrev Md_0 : MdV := (0, upd (fun _ => 0) 1 10, fun _ => 0, 0, fun _ => 0, fun _ => 0, fun _ => 0, fun _ => 0, 0, fun _ => 0, fun _ => 0, 0, fun _ => 0, 0, 0)
theorem bh_two {W Y : Type} {o : Option ((Int32 × W) ⊕ (String × W))} {o2 : Option (Int32 × MdV)} {X : String → Int32 → Prop} {R : W → MdV → Prop} {ok : Int32 × W → Option (Int32 × Y)} {bad : String × W → Option (Int32 × Y)} (val : Int32 → Int64) (KK : W → (Nat → Int64) → Y) (v10 : Nat → Int64) (h : Two o o2 (Ans X R)) (hok : ∀ a w, ok (a, w) = some ((0:Int32), KK w (vp_updL v10 0 (val a)))) (hbad : ∀ s w k, X s k → bad (s, w) = some (k, KK w v10)) (hX : ∀ s k, X s k → k ≠ 0) : ∃ t w ou ans q, bh o ok bad = some (t, KK w ou) ∧ o2 = some (ans, q) ∧ Md_thrown q = t ∧ R w q ∧ (t = 0 → ou 0 = val ans) := by
  obtain ⟨x, b, e1, e2, k⟩ := tw_get h
  obtain ⟨ans, q⟩ := b
  cases x with
  | inl x =>
    obtain ⟨y, w⟩ := x
    obtain ⟨k1, k2, k3⟩ := k
    have k2 : y = ans := k2
    subst k2
    refine ⟨0, w, vp_updL v10 0 (val y), y, q, ?_, e2, k1, k3, fun _ => pk_uLs⟩
    rw [e1, bh_l, hok]
  | inr x =>
    obtain ⟨s, w⟩ := x
    obtain ⟨kk, k1, k2, k3⟩ := k
    refine ⟨kk, w, v10, ans, q, ?_, e2, k2, k3, fun e => absurd e (hX s kk k1)⟩
    rw [e1, bh_r, hbad s w kk k1]
theorem fin_ok {Y : Type} {t : Int32} {ou : Nat → Int64} {ans : Int32} {q : MdV} {y : Y} (h3 : Md_thrown q = t) (h5 : t = 0 → ou 0 = ans.toInt64) : bd (f_X6_thrown q) (fun (q5 : Int32 × Unit) => (if q5.1 = t then (if t = (0:Int32) then gi (0:Int32) 1 (lt (lg_cmp (ou (0:Int32).toNatClampNeg) ans.toInt64) (fun (x9 : Int32) => (if x9 = (0:Int32) then some y else none))) else some y) else none)) = some y := by
  rw [f_X6_thrown, bd_s, if_pos h3]
  by_cases h : t = 0
  · rw [if_pos h, g0_1, lt_e, c0, if_pos ((lg_cmp_eq _ _).mpr (h5 h))]
  · rw [if_neg h]
theorem fin_b {Y : Type} {t : Int32} {ou : Nat → Int64} {ans : Int32} {q : MdV} {y : Y} (h3 : Md_thrown q = t) (h5 : t = 0 → ou 0 = (if ans = (0:Int32) then (0:Int64) else 1)) : bd (f_X6_thrown q) (fun (q5 : Int32 × Unit) => (if q5.1 = t then (if t = (0:Int32) then gi (0:Int32) 1 ((if ans = (0:Int32) then lt (lg_cmp (ou (0:Int32).toNatClampNeg) (0:Int64)) (fun (x9 : Int32) => (if x9 = (0:Int32) then some y else none)) else lt (lg_cmp (ou (0:Int32).toNatClampNeg) (1:Int64)) (fun (x9 : Int32) => (if x9 = (0:Int32) then some y else none)))) else some y) else none)) = some y := by
  rw [f_X6_thrown, bd_s, if_pos h3]
  by_cases h : t = 0
  · rw [if_pos h, g0_1]
    have h5 := h5 h
    by_cases ha : ans = 0
    · rw [if_pos ha] at h5 ⊢
      rw [lt_e, c0, if_pos ((lg_cmp_eq _ _).mpr h5)]
    · rw [if_neg ha] at h5 ⊢
      rw [lt_e, c0, if_pos ((lg_cmp_eq _ _).mpr h5)]
  · rw [if_neg h]
/-- the two beside each other, between calls -/
def Lw (v1 : StV) (v5 : PaV) (v6 : TxV) (v7 : SlV) (v8 v9 : StV) (v10 : MdV) : Prop := ∃ (th : Int32) (z past : Nat → Int32) (pm : Int32) (sl sv sp tx : Nat → Int32) (ty : Int32) (hp mi : Nat → Int32) (pot : Int32) (rd : Nat → Int32) (spt wr : Int32), v10 = (th, z, past, pm, sl, sv, sp, tx, ty, hp, mi, pot, rd, spt, wr) ∧ Now v1 z ∧ Pst v5 past pm ∧ Txt v6 tx ty ∧ Slt v7 v8 v9 sl sv ∧ Zr rd
def LwW (w : LwV) : Prop := Lw w.1 w.2.2.2.2.2.1 w.2.2.2.2.2.2.1 w.2.2.2.2.2.2.2.1 w.2.2.2.2.2.2.2.2.1 w.2.2.2.2.2.2.2.2.2.1 w.2.2.2.2.2.2.2.2.2.2.1
section LAW
variable {xs : Nat → Int32} {L a : Nat} {v1 v2 : StV} {v3 : RdV} {t5 : StV} {t6 : RdV} {v5 : PaV} {v6 : TxV} {v7 : SlV} {v8 v9 : StV} {v10 : MdV} {v11 : OuV}
theorem case_172 (hL : L ≤ 2048) (ha : a + 4 ≤ L) (h : Lw v1 v5 v6 v7 v8 v9 v10) : ∃ w, f_law_172 xs L (nI a) v1 v2 v3 t5 t6 v5 v6 v7 v8 v9 v10 v11 = some w ∧ LwW w := by
  obtain ⟨th, z, past, pm, sl, sv, sp, tx, ty, hp, mi, pot, rd, spt, wr, rfl, hv, hp9, ht, hs9, hz⟩ := h
  have i1 : ∀ {B : Type} {k : Option B}, gi (nI a + (1:Int32)) L k = k := fun {B k} => by rw [nI_s1]; exact gi_ok (by omega) (by omega)
  have i2 : ∀ {B : Type} {k : Option B}, gi (nI a + (2:Int32)) L k = k := fun {B k} => by rw [show nI a + (2:Int32) = nI (a + 2) from q_add a 2]; exact gi_ok (by omega) (by omega)
  have i3 : ∀ {B : Type} {k : Option B}, gi (nI a + (3:Int32)) L k = k := fun {B k} => by rw [show nI a + (3:Int32) = nI (a + 3) from q_add a 3]; exact gi_ok (by omega) (by omega)
  obtain ⟨t, w, ou, ans, q, e1, e2, e3, r, e5⟩ : ∃ t, ∃ (w : TxV), ∃ ou ans q, f_L_append v6 v11 (xs (nI a + (1:Int32)).toNatClampNeg) = some (t, (w, ou)) ∧ f_X6_append (th, z, past, pm, sl, sv, sp, tx, ty, hp, mi, pot, rd, spt, wr) (xs (nI a + (1:Int32)).toNatClampNeg) = some (ans, q) ∧ Md_thrown q = t ∧ _ ∧ (t = 0 → ou 0 = ans.toInt64) := by
    unfold f_L_append
    refine bh_two Int32.toInt64 (fun (w : TxV) ou => (w, ou)) v11 (do_append ht (xs (nI a + (1:Int32)).toNatClampNeg)) (fun y w => ?_) (fun s w k k1 => ?_) (fun s k k1 => ?_)
    · simp only [g0_1, lt_e, c0, Ou_out, Ou_out_s]
    · rcases k1 with ⟨rfl, rfl⟩ | ⟨rfl, rfl⟩ <;> simp only [IAE, ISE, IOB, String.reduceEq, ↓reduceIte]
    · rcases k1 with ⟨-, rfl⟩ | ⟨-, rfl⟩ <;> decide
  obtain ⟨t2, x2, y2, rfl, ht2⟩ := r
  refine ⟨(v1, v2, v3, t5, t6, v5, w, v7, v8, v9, (t2, z, past, pm, sl, sv, sp, x2, y2, hp, mi, pot, rd, spt, wr), ou), ?_, t2, z, past, pm, sl, sv, sp, x2, y2, hp, mi, pot, rd, spt, wr, rfl, hv, hp9, ht2, hs9, hz⟩
  simp only [f_law_172, i1, i2, i3, lt_e, e1, e2, bd_s]
  exact fin_ok e3 e5
theorem case_254 (hL : L ≤ 2048) (ha : a + 4 ≤ L) (h : Lw v1 v5 v6 v7 v8 v9 v10) : ∃ w, f_law_254 xs L (nI a) v1 v2 v3 t5 t6 v5 v6 v7 v8 v9 v10 v11 = some w ∧ LwW w := by
  obtain ⟨th, z, past, pm, sl, sv, sp, tx, ty, hp, mi, pot, rd, spt, wr, rfl, hv, hp9, ht, hs9, hz⟩ := h
  have i1 : ∀ {B : Type} {k : Option B}, gi (nI a + (1:Int32)) L k = k := fun {B k} => by rw [nI_s1]; exact gi_ok (by omega) (by omega)
  have i2 : ∀ {B : Type} {k : Option B}, gi (nI a + (2:Int32)) L k = k := fun {B k} => by rw [show nI a + (2:Int32) = nI (a + 2) from q_add a 2]; exact gi_ok (by omega) (by omega)
  have i3 : ∀ {B : Type} {k : Option B}, gi (nI a + (3:Int32)) L k = k := fun {B k} => by rw [show nI a + (3:Int32) = nI (a + 3) from q_add a 3]; exact gi_ok (by omega) (by omega)
  obtain ⟨t, w, ou, ans, q, e1, e2, e3, r, e5⟩ : ∃ t, ∃ (w : (StV × StV × PaV × TxV × SlV)), ∃ ou ans q, f_L_load v1 v2 v5 v6 v7 v11  = some (t, (w.1, w.2.1, w.2.2.1, w.2.2.2.1, w.2.2.2.2, ou)) ∧ f_X6_load (th, z, past, pm, sl, sv, sp, tx, ty, hp, mi, pot, rd, spt, wr)  = some (ans, q) ∧ Md_thrown q = t ∧ _ ∧ (t = 0 → ou 0 = ans.toInt64) := by
    unfold f_L_load
    refine bh_two Int32.toInt64 (fun (w : (StV × StV × PaV × TxV × SlV)) ou => (w.1, w.2.1, w.2.2.1, w.2.2.2.1, w.2.2.2.2, ou)) v11 (do_load ht hz hp9 hs9 hv v2) (fun y w => ?_) (fun s w k k1 => ?_) (fun s k k1 => ?_)
    · simp only [g0_1, lt_e, c0, Ou_out, Ou_out_s]
    · rcases k1 with ⟨rfl, rfl⟩ <;> simp only [IAE, ISE, IOB, String.reduceEq, ↓reduceIte]
    · rcases k1 with ⟨-, rfl⟩ <;> decide
  obtain ⟨t2, z2, pm2, sv2, rd2, s2, w2, rfl, hv2, hp2, ht2, hs2, hz2⟩ := r
  refine ⟨(w.1, w.2.1, v3, t5, t6, w.2.2.1, w.2.2.2.1, w.2.2.2.2, v8, v9, (t2, z2, past, pm2, sl, sv2, sp, tx, ty, hp, mi, pot, rd2, s2, w2), ou), ?_, t2, z2, past, pm2, sl, sv2, sp, tx, ty, hp, mi, pot, rd2, s2, w2, rfl, hv2, hp2, ht2, hs2, hz2⟩
  simp only [f_law_254, i1, i2, i3, lt_e, e1, e2, bd_s]
  exact fin_ok e3 e5
theorem case_298 (hL : L ≤ 2048) (ha : a + 4 ≤ L) (h : Lw v1 v5 v6 v7 v8 v9 v10) : ∃ w, f_law_298 xs L (nI a) v1 v2 v3 t5 t6 v5 v6 v7 v8 v9 v10 v11 = some w ∧ LwW w := by
  obtain ⟨th, z, past, pm, sl, sv, sp, tx, ty, hp, mi, pot, rd, spt, wr, rfl, hv, hp9, ht, hs9, hz⟩ := h
  have i1 : ∀ {B : Type} {k : Option B}, gi (nI a + (1:Int32)) L k = k := fun {B k} => by rw [nI_s1]; exact gi_ok (by omega) (by omega)
  have i2 : ∀ {B : Type} {k : Option B}, gi (nI a + (2:Int32)) L k = k := fun {B k} => by rw [show nI a + (2:Int32) = nI (a + 2) from q_add a 2]; exact gi_ok (by omega) (by omega)
  have i3 : ∀ {B : Type} {k : Option B}, gi (nI a + (3:Int32)) L k = k := fun {B k} => by rw [show nI a + (3:Int32) = nI (a + 3) from q_add a 3]; exact gi_ok (by omega) (by omega)
  obtain ⟨c, m, hm, g⟩ := id hv
  obtain ⟨t, w, ou, ans, q, e1, e2, e3, r, e5⟩ : ∃ t, ∃ (w : Unit), ∃ ou ans q, f_L_about v1 v11 (xs (nI a + (1:Int32)).toNatClampNeg) = some (t, ou) ∧ f_X6_about (th, z, past, pm, sl, sv, sp, tx, ty, hp, mi, pot, rd, spt, wr) (xs (nI a + (1:Int32)).toNatClampNeg) = some (ans, q) ∧ Md_thrown q = t ∧ _ ∧ (t = 0 → ou 0 = ans.toInt64) := by
    unfold f_L_about
    refine bh_two Int32.toInt64 (fun (w : Unit) ou => ou) v11 (ask_about g (xs (nI a + (1:Int32)).toNatClampNeg)) (fun y w => ?_) (fun s w k k1 => ?_) (fun s k k1 => ?_)
    · simp only [g0_1, lt_e, c0, Ou_out, Ou_out_s]
    · rcases k1 with ⟨rfl, rfl⟩ <;> simp only [IAE, ISE, IOB, String.reduceEq, ↓reduceIte]
    · rcases k1 with ⟨-, rfl⟩ <;> decide
  obtain ⟨t2, rfl⟩ := r
  refine ⟨(v1, v2, v3, t5, t6, v5, v6, v7, v8, v9, (t2, z, past, pm, sl, sv, sp, tx, ty, hp, mi, pot, rd, spt, wr), ou), ?_, t2, z, past, pm, sl, sv, sp, tx, ty, hp, mi, pot, rd, spt, wr, rfl, hv, hp9, ht, hs9, hz⟩
  simp only [f_law_298, i1, i2, i3, lt_e, e1, e2, bd_s]
  exact fin_ok e3 e5
theorem case_354 (hL : L ≤ 2048) (ha : a + 4 ≤ L) (h : Lw v1 v5 v6 v7 v8 v9 v10) : ∃ w, f_law_354 xs L (nI a) v1 v2 v3 t5 t6 v5 v6 v7 v8 v9 v10 v11 = some w ∧ LwW w := by
  obtain ⟨th, z, past, pm, sl, sv, sp, tx, ty, hp, mi, pot, rd, spt, wr, rfl, hv, hp9, ht, hs9, hz⟩ := h
  have i1 : ∀ {B : Type} {k : Option B}, gi (nI a + (1:Int32)) L k = k := fun {B k} => by rw [nI_s1]; exact gi_ok (by omega) (by omega)
  have i2 : ∀ {B : Type} {k : Option B}, gi (nI a + (2:Int32)) L k = k := fun {B k} => by rw [show nI a + (2:Int32) = nI (a + 2) from q_add a 2]; exact gi_ok (by omega) (by omega)
  have i3 : ∀ {B : Type} {k : Option B}, gi (nI a + (3:Int32)) L k = k := fun {B k} => by rw [show nI a + (3:Int32) = nI (a + 3) from q_add a 3]; exact gi_ok (by omega) (by omega)
  obtain ⟨c, m, hm, g⟩ := id hv
  obtain ⟨t, w, ou, ans, q, e1, e2, e3, r, e5⟩ : ∃ t, ∃ (w : Unit), ∃ ou ans q, f_L_member v1 v11 (xs (nI a + (1:Int32)).toNatClampNeg) (xs (nI a + (2:Int32)).toNatClampNeg) = some (t, ou) ∧ f_X6_member (th, z, past, pm, sl, sv, sp, tx, ty, hp, mi, pot, rd, spt, wr) (xs (nI a + (1:Int32)).toNatClampNeg) (xs (nI a + (2:Int32)).toNatClampNeg) = some (ans, q) ∧ Md_thrown q = t ∧ _ ∧ (t = 0 → ou 0 = ans.toInt64) := by
    unfold f_L_member
    refine bh_two Int32.toInt64 (fun (w : Unit) ou => ou) v11 (ask_member g (xs (nI a + (1:Int32)).toNatClampNeg) (xs (nI a + (2:Int32)).toNatClampNeg)) (fun y w => ?_) (fun s w k k1 => ?_) (fun s k k1 => ?_)
    · simp only [g0_1, lt_e, c0, Ou_out, Ou_out_s]
    · rcases k1 with ⟨rfl, rfl⟩ | ⟨rfl, rfl⟩ <;> simp only [IAE, ISE, IOB, String.reduceEq, ↓reduceIte]
    · rcases k1 with ⟨-, rfl⟩ | ⟨-, rfl⟩ <;> decide
  obtain ⟨t2, rfl⟩ := r
  refine ⟨(v1, v2, v3, t5, t6, v5, v6, v7, v8, v9, (t2, z, past, pm, sl, sv, sp, tx, ty, hp, mi, pot, rd, spt, wr), ou), ?_, t2, z, past, pm, sl, sv, sp, tx, ty, hp, mi, pot, rd, spt, wr, rfl, hv, hp9, ht, hs9, hz⟩
  simp only [f_law_354, i1, i2, i3, lt_e, e1, e2, bd_s]
  exact fin_ok e3 e5
theorem case_422 (hL : L ≤ 2048) (ha : a + 4 ≤ L) (h : Lw v1 v5 v6 v7 v8 v9 v10) : ∃ w, f_law_422 xs L (nI a) v1 v2 v3 t5 t6 v5 v6 v7 v8 v9 v10 v11 = some w ∧ LwW w := by
  obtain ⟨th, z, past, pm, sl, sv, sp, tx, ty, hp, mi, pot, rd, spt, wr, rfl, hv, hp9, ht, hs9, hz⟩ := h
  have i1 : ∀ {B : Type} {k : Option B}, gi (nI a + (1:Int32)) L k = k := fun {B k} => by rw [nI_s1]; exact gi_ok (by omega) (by omega)
  have i2 : ∀ {B : Type} {k : Option B}, gi (nI a + (2:Int32)) L k = k := fun {B k} => by rw [show nI a + (2:Int32) = nI (a + 2) from q_add a 2]; exact gi_ok (by omega) (by omega)
  have i3 : ∀ {B : Type} {k : Option B}, gi (nI a + (3:Int32)) L k = k := fun {B k} => by rw [show nI a + (3:Int32) = nI (a + 3) from q_add a 3]; exact gi_ok (by omega) (by omega)
  obtain ⟨c, m, hm, g⟩ := id hv
  obtain ⟨t, w, ou, ans, q, e1, e2, e3, r, e5⟩ : ∃ t, ∃ (w : Unit), ∃ ou ans q, f_L_owes v1 v11 (xs (nI a + (1:Int32)).toNatClampNeg) (xs (nI a + (2:Int32)).toNatClampNeg) = some (t, ou) ∧ f_X6_owes (th, z, past, pm, sl, sv, sp, tx, ty, hp, mi, pot, rd, spt, wr) (xs (nI a + (1:Int32)).toNatClampNeg) (xs (nI a + (2:Int32)).toNatClampNeg) = some (ans, q) ∧ Md_thrown q = t ∧ _ ∧ (t = 0 → ou 0 = ans.toInt64) := by
    unfold f_L_owes
    refine bh_two Int32.toInt64 (fun (w : Unit) ou => ou) v11 (ask_owes g (xs (nI a + (1:Int32)).toNatClampNeg) (xs (nI a + (2:Int32)).toNatClampNeg)) (fun y w => ?_) (fun s w k k1 => ?_) (fun s k k1 => ?_)
    · simp only [g0_1, lt_e, c0, Ou_out, Ou_out_s]
    · rcases k1 with ⟨rfl, rfl⟩ | ⟨rfl, rfl⟩ <;> simp only [IAE, ISE, IOB, String.reduceEq, ↓reduceIte]
    · rcases k1 with ⟨-, rfl⟩ | ⟨-, rfl⟩ <;> decide
  obtain ⟨t2, rfl⟩ := r
  refine ⟨(v1, v2, v3, t5, t6, v5, v6, v7, v8, v9, (t2, z, past, pm, sl, sv, sp, tx, ty, hp, mi, pot, rd, spt, wr), ou), ?_, t2, z, past, pm, sl, sv, sp, tx, ty, hp, mi, pot, rd, spt, wr, rfl, hv, hp9, ht, hs9, hz⟩
  simp only [f_law_422, i1, i2, i3, lt_e, e1, e2, bd_s]
  exact fin_ok e3 e5
theorem case_490 (hL : L ≤ 2048) (ha : a + 4 ≤ L) (h : Lw v1 v5 v6 v7 v8 v9 v10) : ∃ w, f_law_490 xs L (nI a) v1 v2 v3 t5 t6 v5 v6 v7 v8 v9 v10 v11 = some w ∧ LwW w := by
  obtain ⟨th, z, past, pm, sl, sv, sp, tx, ty, hp, mi, pot, rd, spt, wr, rfl, hv, hp9, ht, hs9, hz⟩ := h
  have i1 : ∀ {B : Type} {k : Option B}, gi (nI a + (1:Int32)) L k = k := fun {B k} => by rw [nI_s1]; exact gi_ok (by omega) (by omega)
  have i2 : ∀ {B : Type} {k : Option B}, gi (nI a + (2:Int32)) L k = k := fun {B k} => by rw [show nI a + (2:Int32) = nI (a + 2) from q_add a 2]; exact gi_ok (by omega) (by omega)
  have i3 : ∀ {B : Type} {k : Option B}, gi (nI a + (3:Int32)) L k = k := fun {B k} => by rw [show nI a + (3:Int32) = nI (a + 3) from q_add a 3]; exact gi_ok (by omega) (by omega)
  obtain ⟨c, m, hm, g⟩ := id hv
  obtain ⟨t, w, ou, ans, q, e1, e2, e3, r, e5⟩ : ∃ t, ∃ (w : Unit), ∃ ou ans q, f_L_chain v1 v11 (xs (nI a + (1:Int32)).toNatClampNeg) = some (t, ou) ∧ f_X6_chain (th, z, past, pm, sl, sv, sp, tx, ty, hp, mi, pot, rd, spt, wr) (xs (nI a + (1:Int32)).toNatClampNeg) = some (ans, q) ∧ Md_thrown q = t ∧ _ ∧ (t = 0 → ou 0 = ans.toInt64) := by
    unfold f_L_chain
    refine bh_two Int32.toInt64 (fun (w : Unit) ou => ou) v11 (ask_chain g (xs (nI a + (1:Int32)).toNatClampNeg)) (fun y w => ?_) (fun s w k k1 => ?_) (fun s k k1 => ?_)
    · simp only [g0_1, lt_e, c0, Ou_out, Ou_out_s]
    · rcases k1 with ⟨rfl, rfl⟩ <;> simp only [IAE, ISE, IOB, String.reduceEq, ↓reduceIte]
    · rcases k1 with ⟨-, rfl⟩ <;> decide
  obtain ⟨t2, rfl⟩ := r
  refine ⟨(v1, v2, v3, t5, t6, v5, v6, v7, v8, v9, (t2, z, past, pm, sl, sv, sp, tx, ty, hp, mi, pot, rd, spt, wr), ou), ?_, t2, z, past, pm, sl, sv, sp, tx, ty, hp, mi, pot, rd, spt, wr, rfl, hv, hp9, ht, hs9, hz⟩
  simp only [f_law_490, i1, i2, i3, lt_e, e1, e2, bd_s]
  exact fin_ok e3 e5
theorem case_546 (hL : L ≤ 2048) (ha : a + 4 ≤ L) (h : Lw v1 v5 v6 v7 v8 v9 v10) : ∃ w, f_law_546 xs L (nI a) v1 v2 v3 t5 t6 v5 v6 v7 v8 v9 v10 v11 = some w ∧ LwW w := by
  obtain ⟨th, z, past, pm, sl, sv, sp, tx, ty, hp, mi, pot, rd, spt, wr, rfl, hv, hp9, ht, hs9, hz⟩ := h
  have i1 : ∀ {B : Type} {k : Option B}, gi (nI a + (1:Int32)) L k = k := fun {B k} => by rw [nI_s1]; exact gi_ok (by omega) (by omega)
  have i2 : ∀ {B : Type} {k : Option B}, gi (nI a + (2:Int32)) L k = k := fun {B k} => by rw [show nI a + (2:Int32) = nI (a + 2) from q_add a 2]; exact gi_ok (by omega) (by omega)
  have i3 : ∀ {B : Type} {k : Option B}, gi (nI a + (3:Int32)) L k = k := fun {B k} => by rw [show nI a + (3:Int32) = nI (a + 3) from q_add a 3]; exact gi_ok (by omega) (by omega)
  obtain ⟨c, m, hm, g⟩ := id hv
  obtain ⟨t, w, ou, ans, q, e1, e2, e3, r, e5⟩ : ∃ t, ∃ (w : Unit), ∃ ou ans q, f_L_rate v1 v11 (xs (nI a + (1:Int32)).toNatClampNeg) = some (t, ou) ∧ f_X6_rate (th, z, past, pm, sl, sv, sp, tx, ty, hp, mi, pot, rd, spt, wr) (xs (nI a + (1:Int32)).toNatClampNeg) = some (ans, q) ∧ Md_thrown q = t ∧ _ ∧ (t = 0 → ou 0 = ans.toInt64) := by
    unfold f_L_rate
    refine bh_two Int32.toInt64 (fun (w : Unit) ou => ou) v11 (ask_rate g hm (xs (nI a + (1:Int32)).toNatClampNeg)) (fun y w => ?_) (fun s w k k1 => ?_) (fun s k k1 => ?_)
    · simp only [g0_1, lt_e, c0, Ou_out, Ou_out_s]
    · rcases k1 with ⟨rfl, rfl⟩ <;> simp only [IAE, ISE, IOB, String.reduceEq, ↓reduceIte]
    · rcases k1 with ⟨-, rfl⟩ <;> decide
  obtain ⟨t2, rfl⟩ := r
  refine ⟨(v1, v2, v3, t5, t6, v5, v6, v7, v8, v9, (t2, z, past, pm, sl, sv, sp, tx, ty, hp, mi, pot, rd, spt, wr), ou), ?_, t2, z, past, pm, sl, sv, sp, tx, ty, hp, mi, pot, rd, spt, wr, rfl, hv, hp9, ht, hs9, hz⟩
  simp only [f_law_546, i1, i2, i3, lt_e, e1, e2, bd_s]
  exact fin_ok e3 e5
theorem case_602 (hL : L ≤ 2048) (ha : a + 4 ≤ L) (h : Lw v1 v5 v6 v7 v8 v9 v10) : ∃ w, f_law_602 xs L (nI a) v1 v2 v3 t5 t6 v5 v6 v7 v8 v9 v10 v11 = some w ∧ LwW w := by
  obtain ⟨th, z, past, pm, sl, sv, sp, tx, ty, hp, mi, pot, rd, spt, wr, rfl, hv, hp9, ht, hs9, hz⟩ := h
  have i1 : ∀ {B : Type} {k : Option B}, gi (nI a + (1:Int32)) L k = k := fun {B k} => by rw [nI_s1]; exact gi_ok (by omega) (by omega)
  have i2 : ∀ {B : Type} {k : Option B}, gi (nI a + (2:Int32)) L k = k := fun {B k} => by rw [show nI a + (2:Int32) = nI (a + 2) from q_add a 2]; exact gi_ok (by omega) (by omega)
  have i3 : ∀ {B : Type} {k : Option B}, gi (nI a + (3:Int32)) L k = k := fun {B k} => by rw [show nI a + (3:Int32) = nI (a + 3) from q_add a 3]; exact gi_ok (by omega) (by omega)
  obtain ⟨t, w, ou, ans, q, e1, e2, e3, r, e5⟩ : ∃ t, ∃ (w : (StV × PaV)), ∃ ou ans q, f_L_addMember v1 v5 v11 (xs (nI a + (1:Int32)).toNatClampNeg) = some (t, (w.1, w.2, ou)) ∧ f_X6_addMember (th, z, past, pm, sl, sv, sp, tx, ty, hp, mi, pot, rd, spt, wr) (xs (nI a + (1:Int32)).toNatClampNeg) = some (ans, q) ∧ Md_thrown q = t ∧ _ ∧ (t = 0 → ou 0 = ans.toInt64) := by
    unfold f_L_addMember
    refine bh_two Int32.toInt64 (fun (w : (StV × PaV)) ou => (w.1, w.2, ou)) v11 (act_addMember hp9 hv (xs (nI a + (1:Int32)).toNatClampNeg)) (fun y w => ?_) (fun s w k k1 => ?_) (fun s k k1 => ?_)
    · simp only [g0_1, lt_e, c0, Ou_out, Ou_out_s]
    · rcases k1 with ⟨rfl, rfl⟩ | ⟨rfl, rfl⟩ <;> simp only [IAE, ISE, IOB, String.reduceEq, ↓reduceIte]
    · rcases k1 with ⟨-, rfl⟩ | ⟨-, rfl⟩ <;> decide
  obtain ⟨t2, z2, p2, pm2, rfl, hv2, hp2⟩ := r
  refine ⟨(w.1, v2, v3, t5, t6, w.2, v6, v7, v8, v9, (t2, z2, p2, pm2, sl, sv, sp, tx, ty, hp, mi, pot, rd, spt, wr), ou), ?_, t2, z2, p2, pm2, sl, sv, sp, tx, ty, hp, mi, pot, rd, spt, wr, rfl, hv2, hp2, ht, hs9, hz⟩
  simp only [f_law_602, i1, i2, i3, lt_e, e1, e2, bd_s]
  exact fin_ok e3 e5
theorem case_658 (hL : L ≤ 2048) (ha : a + 4 ≤ L) (h : Lw v1 v5 v6 v7 v8 v9 v10) : ∃ w, f_law_658 xs L (nI a) v1 v2 v3 t5 t6 v5 v6 v7 v8 v9 v10 v11 = some w ∧ LwW w := by
  obtain ⟨th, z, past, pm, sl, sv, sp, tx, ty, hp, mi, pot, rd, spt, wr, rfl, hv, hp9, ht, hs9, hz⟩ := h
  have i1 : ∀ {B : Type} {k : Option B}, gi (nI a + (1:Int32)) L k = k := fun {B k} => by rw [nI_s1]; exact gi_ok (by omega) (by omega)
  have i2 : ∀ {B : Type} {k : Option B}, gi (nI a + (2:Int32)) L k = k := fun {B k} => by rw [show nI a + (2:Int32) = nI (a + 2) from q_add a 2]; exact gi_ok (by omega) (by omega)
  have i3 : ∀ {B : Type} {k : Option B}, gi (nI a + (3:Int32)) L k = k := fun {B k} => by rw [show nI a + (3:Int32) = nI (a + 3) from q_add a 3]; exact gi_ok (by omega) (by omega)
  obtain ⟨t, w, ou, ans, q, e1, e2, e3, r, e5⟩ : ∃ t, ∃ (w : (StV × PaV)), ∃ ou ans q, f_L_setContribution v1 v5 v11 (xs (nI a + (1:Int32)).toNatClampNeg) = some (t, (w.1, w.2, ou)) ∧ f_X6_setContribution (th, z, past, pm, sl, sv, sp, tx, ty, hp, mi, pot, rd, spt, wr) (xs (nI a + (1:Int32)).toNatClampNeg) = some (ans, q) ∧ Md_thrown q = t ∧ _ ∧ (t = 0 → ou 0 = ans.toInt64) := by
    unfold f_L_setContribution
    refine bh_two Int32.toInt64 (fun (w : (StV × PaV)) ou => (w.1, w.2, ou)) v11 (act_setContribution hp9 hv (xs (nI a + (1:Int32)).toNatClampNeg)) (fun y w => ?_) (fun s w k k1 => ?_) (fun s k k1 => ?_)
    · simp only [g0_1, lt_e, c0, Ou_out, Ou_out_s]
    · rcases k1 with ⟨rfl, rfl⟩ <;> simp only [IAE, ISE, IOB, String.reduceEq, ↓reduceIte]
    · rcases k1 with ⟨-, rfl⟩ <;> decide
  obtain ⟨t2, z2, p2, pm2, rfl, hv2, hp2⟩ := r
  refine ⟨(w.1, v2, v3, t5, t6, w.2, v6, v7, v8, v9, (t2, z2, p2, pm2, sl, sv, sp, tx, ty, hp, mi, pot, rd, spt, wr), ou), ?_, t2, z2, p2, pm2, sl, sv, sp, tx, ty, hp, mi, pot, rd, spt, wr, rfl, hv2, hp2, ht, hs9, hz⟩
  simp only [f_law_658, i1, i2, i3, lt_e, e1, e2, bd_s]
  exact fin_ok e3 e5
theorem case_714 (hL : L ≤ 2048) (ha : a + 4 ≤ L) (h : Lw v1 v5 v6 v7 v8 v9 v10) : ∃ w, f_law_714 xs L (nI a) v1 v2 v3 t5 t6 v5 v6 v7 v8 v9 v10 v11 = some w ∧ LwW w := by
  obtain ⟨th, z, past, pm, sl, sv, sp, tx, ty, hp, mi, pot, rd, spt, wr, rfl, hv, hp9, ht, hs9, hz⟩ := h
  have i1 : ∀ {B : Type} {k : Option B}, gi (nI a + (1:Int32)) L k = k := fun {B k} => by rw [nI_s1]; exact gi_ok (by omega) (by omega)
  have i2 : ∀ {B : Type} {k : Option B}, gi (nI a + (2:Int32)) L k = k := fun {B k} => by rw [show nI a + (2:Int32) = nI (a + 2) from q_add a 2]; exact gi_ok (by omega) (by omega)
  have i3 : ∀ {B : Type} {k : Option B}, gi (nI a + (3:Int32)) L k = k := fun {B k} => by rw [show nI a + (3:Int32) = nI (a + 3) from q_add a 3]; exact gi_ok (by omega) (by omega)
  obtain ⟨t, w, ou, ans, q, e1, e2, e3, r, e5⟩ : ∃ t, ∃ (w : (StV × PaV)), ∃ ou ans q, f_L_setGuarantor v1 v5 v11 (xs (nI a + (1:Int32)).toNatClampNeg) (xs (nI a + (2:Int32)).toNatClampNeg) = some (t, (w.1, w.2, ou)) ∧ f_X6_setGuarantor (th, z, past, pm, sl, sv, sp, tx, ty, hp, mi, pot, rd, spt, wr) (xs (nI a + (1:Int32)).toNatClampNeg) (xs (nI a + (2:Int32)).toNatClampNeg) = some (ans, q) ∧ Md_thrown q = t ∧ _ ∧ (t = 0 → ou 0 = ans.toInt64) := by
    unfold f_L_setGuarantor
    refine bh_two Int32.toInt64 (fun (w : (StV × PaV)) ou => (w.1, w.2, ou)) v11 (act_setGuarantor hp9 hv (xs (nI a + (1:Int32)).toNatClampNeg) (xs (nI a + (2:Int32)).toNatClampNeg)) (fun y w => ?_) (fun s w k k1 => ?_) (fun s k k1 => ?_)
    · simp only [g0_1, lt_e, c0, Ou_out, Ou_out_s]
    · rcases k1 with ⟨rfl, rfl⟩ | ⟨rfl, rfl⟩ <;> simp only [IAE, ISE, IOB, String.reduceEq, ↓reduceIte]
    · rcases k1 with ⟨-, rfl⟩ | ⟨-, rfl⟩ <;> decide
  obtain ⟨t2, z2, p2, pm2, rfl, hv2, hp2⟩ := r
  refine ⟨(w.1, v2, v3, t5, t6, w.2, v6, v7, v8, v9, (t2, z2, p2, pm2, sl, sv, sp, tx, ty, hp, mi, pot, rd, spt, wr), ou), ?_, t2, z2, p2, pm2, sl, sv, sp, tx, ty, hp, mi, pot, rd, spt, wr, rfl, hv2, hp2, ht, hs9, hz⟩
  simp only [f_law_714, i1, i2, i3, lt_e, e1, e2, bd_s]
  exact fin_ok e3 e5
theorem case_782 (hL : L ≤ 2048) (ha : a + 4 ≤ L) (h : Lw v1 v5 v6 v7 v8 v9 v10) : ∃ w, f_law_782 xs L (nI a) v1 v2 v3 t5 t6 v5 v6 v7 v8 v9 v10 v11 = some w ∧ LwW w := by
  obtain ⟨th, z, past, pm, sl, sv, sp, tx, ty, hp, mi, pot, rd, spt, wr, rfl, hv, hp9, ht, hs9, hz⟩ := h
  have i1 : ∀ {B : Type} {k : Option B}, gi (nI a + (1:Int32)) L k = k := fun {B k} => by rw [nI_s1]; exact gi_ok (by omega) (by omega)
  have i2 : ∀ {B : Type} {k : Option B}, gi (nI a + (2:Int32)) L k = k := fun {B k} => by rw [show nI a + (2:Int32) = nI (a + 2) from q_add a 2]; exact gi_ok (by omega) (by omega)
  have i3 : ∀ {B : Type} {k : Option B}, gi (nI a + (3:Int32)) L k = k := fun {B k} => by rw [show nI a + (3:Int32) = nI (a + 3) from q_add a 3]; exact gi_ok (by omega) (by omega)
  obtain ⟨t, w, ou, ans, q, e1, e2, e3, r, e5⟩ : ∃ t, ∃ (w : (StV × PaV)), ∃ ou ans q, f_L_bid v1 v5 v11 (xs (nI a + (1:Int32)).toNatClampNeg) (xs (nI a + (2:Int32)).toNatClampNeg) = some (t, (w.1, w.2, ou)) ∧ f_X6_bid (th, z, past, pm, sl, sv, sp, tx, ty, hp, mi, pot, rd, spt, wr) (xs (nI a + (1:Int32)).toNatClampNeg) (xs (nI a + (2:Int32)).toNatClampNeg) = some (ans, q) ∧ Md_thrown q = t ∧ _ ∧ (t = 0 → ou 0 = ans.toInt64) := by
    unfold f_L_bid
    refine bh_two Int32.toInt64 (fun (w : (StV × PaV)) ou => (w.1, w.2, ou)) v11 (act_bid hp9 hv (xs (nI a + (1:Int32)).toNatClampNeg) (xs (nI a + (2:Int32)).toNatClampNeg)) (fun y w => ?_) (fun s w k k1 => ?_) (fun s k k1 => ?_)
    · simp only [g0_1, lt_e, c0, Ou_out, Ou_out_s]
    · rcases k1 with ⟨rfl, rfl⟩ | ⟨rfl, rfl⟩ | ⟨rfl, rfl⟩ <;> simp only [IAE, ISE, IOB, String.reduceEq, ↓reduceIte]
    · rcases k1 with ⟨-, rfl⟩ | ⟨-, rfl⟩ | ⟨-, rfl⟩ <;> decide
  obtain ⟨t2, z2, p2, pm2, rfl, hv2, hp2⟩ := r
  refine ⟨(w.1, v2, v3, t5, t6, w.2, v6, v7, v8, v9, (t2, z2, p2, pm2, sl, sv, sp, tx, ty, hp, mi, pot, rd, spt, wr), ou), ?_, t2, z2, p2, pm2, sl, sv, sp, tx, ty, hp, mi, pot, rd, spt, wr, rfl, hv2, hp2, ht, hs9, hz⟩
  simp only [f_law_782, i1, i2, i3, lt_e, e1, e2, bd_s]
  exact fin_ok e3 e5
theorem case_941 (hL : L ≤ 2048) (ha : a + 4 ≤ L) (h : Lw v1 v5 v6 v7 v8 v9 v10) : ∃ w, f_law_941 xs L (nI a) v1 v2 v3 t5 t6 v5 v6 v7 v8 v9 v10 v11 = some w ∧ LwW w := by
  obtain ⟨th, z, past, pm, sl, sv, sp, tx, ty, hp, mi, pot, rd, spt, wr, rfl, hv, hp9, ht, hs9, hz⟩ := h
  have i1 : ∀ {B : Type} {k : Option B}, gi (nI a + (1:Int32)) L k = k := fun {B k} => by rw [nI_s1]; exact gi_ok (by omega) (by omega)
  have i2 : ∀ {B : Type} {k : Option B}, gi (nI a + (2:Int32)) L k = k := fun {B k} => by rw [show nI a + (2:Int32) = nI (a + 2) from q_add a 2]; exact gi_ok (by omega) (by omega)
  have i3 : ∀ {B : Type} {k : Option B}, gi (nI a + (3:Int32)) L k = k := fun {B k} => by rw [show nI a + (3:Int32) = nI (a + 3) from q_add a 3]; exact gi_ok (by omega) (by omega)
  obtain ⟨t, w, ou, ans, q, e1, e2, e3, r, e5⟩ : ∃ t, ∃ (w : (StV × PaV)), ∃ ou ans q, f_L_give v1 v5 v11 (xs (nI a + (1:Int32)).toNatClampNeg) (xs (nI a + (2:Int32)).toNatClampNeg) = some (t, (w.1, w.2, ou)) ∧ f_X6_give (th, z, past, pm, sl, sv, sp, tx, ty, hp, mi, pot, rd, spt, wr) (xs (nI a + (1:Int32)).toNatClampNeg) (xs (nI a + (2:Int32)).toNatClampNeg) = some (ans, q) ∧ Md_thrown q = t ∧ _ ∧ (t = 0 → ou 0 = ans.toInt64) := by
    unfold f_L_give
    refine bh_two Int32.toInt64 (fun (w : (StV × PaV)) ou => (w.1, w.2, ou)) v11 (act_give hp9 hv (xs (nI a + (1:Int32)).toNatClampNeg) (xs (nI a + (2:Int32)).toNatClampNeg)) (fun y w => ?_) (fun s w k k1 => ?_) (fun s k k1 => ?_)
    · simp only [g0_1, lt_e, c0, Ou_out, Ou_out_s]
    · rcases k1 with ⟨rfl, rfl⟩ | ⟨rfl, rfl⟩ | ⟨rfl, rfl⟩ <;> simp only [IAE, ISE, IOB, String.reduceEq, ↓reduceIte]
    · rcases k1 with ⟨-, rfl⟩ | ⟨-, rfl⟩ | ⟨-, rfl⟩ <;> decide
  obtain ⟨t2, z2, p2, pm2, rfl, hv2, hp2⟩ := r
  refine ⟨(w.1, v2, v3, t5, t6, w.2, v6, v7, v8, v9, (t2, z2, p2, pm2, sl, sv, sp, tx, ty, hp, mi, pot, rd, spt, wr), ou), ?_, t2, z2, p2, pm2, sl, sv, sp, tx, ty, hp, mi, pot, rd, spt, wr, rfl, hv2, hp2, ht, hs9, hz⟩
  simp only [f_law_941, i1, i2, i3, lt_e, e1, e2, bd_s]
  exact fin_ok e3 e5
theorem case_1009 (hL : L ≤ 2048) (ha : a + 4 ≤ L) (h : Lw v1 v5 v6 v7 v8 v9 v10) : ∃ w, f_law_1009 xs L (nI a) v1 v2 v3 t5 t6 v5 v6 v7 v8 v9 v10 v11 = some w ∧ LwW w := by
  obtain ⟨th, z, past, pm, sl, sv, sp, tx, ty, hp, mi, pot, rd, spt, wr, rfl, hv, hp9, ht, hs9, hz⟩ := h
  have i1 : ∀ {B : Type} {k : Option B}, gi (nI a + (1:Int32)) L k = k := fun {B k} => by rw [nI_s1]; exact gi_ok (by omega) (by omega)
  have i2 : ∀ {B : Type} {k : Option B}, gi (nI a + (2:Int32)) L k = k := fun {B k} => by rw [show nI a + (2:Int32) = nI (a + 2) from q_add a 2]; exact gi_ok (by omega) (by omega)
  have i3 : ∀ {B : Type} {k : Option B}, gi (nI a + (3:Int32)) L k = k := fun {B k} => by rw [show nI a + (3:Int32) = nI (a + 3) from q_add a 3]; exact gi_ok (by omega) (by omega)
  obtain ⟨t, w, ou, ans, q, e1, e2, e3, r, e5⟩ : ∃ t, ∃ (w : (StV × RdV × PaV)), ∃ ou ans q, f_L_month v1 v3 v5 v11  = some (t, (w.1, w.2.1, w.2.2, ou)) ∧ f_X6_month (th, z, past, pm, sl, sv, sp, tx, ty, hp, mi, pot, rd, spt, wr)  = some (ans, q) ∧ Md_thrown q = t ∧ _ ∧ (t = 0 → ou 0 = ans.toInt64) := by
    unfold f_L_month
    refine bh_two Int32.toInt64 (fun (w : (StV × RdV × PaV)) ou => (w.1, w.2.1, w.2.2, ou)) v11 (act_month hp9 hv) (fun y w => ?_) (fun s w k k1 => ?_) (fun s k k1 => ?_)
    · simp only [g0_1, lt_e, c0, Ou_out, Ou_out_s]
    · rcases k1 with ⟨rfl, rfl⟩ <;> simp only [IAE, ISE, IOB, String.reduceEq, ↓reduceIte]
    · rcases k1 with ⟨-, rfl⟩ <;> decide
  obtain ⟨t2, z2, p2, pm2, h2, m2, o2, rfl, hv2, hp2⟩ := r
  refine ⟨(w.1, v2, w.2.1, t5, t6, w.2.2, v6, v7, v8, v9, (t2, z2, p2, pm2, sl, sv, sp, tx, ty, h2, m2, o2, rd, spt, wr), ou), ?_, t2, z2, p2, pm2, sl, sv, sp, tx, ty, h2, m2, o2, rd, spt, wr, rfl, hv2, hp2, ht, hs9, hz⟩
  simp only [f_law_1009, i1, i2, i3, lt_e, e1, e2, bd_s]
  exact fin_ok e3 e5
theorem case_1053 (hL : L ≤ 2048) (ha : a + 4 ≤ L) (h : Lw v1 v5 v6 v7 v8 v9 v10) : ∃ w, f_law_1053 xs L (nI a) v1 v2 v3 t5 t6 v5 v6 v7 v8 v9 v10 v11 = some w ∧ LwW w := by
  obtain ⟨th, z, past, pm, sl, sv, sp, tx, ty, hp, mi, pot, rd, spt, wr, rfl, hv, hp9, ht, hs9, hz⟩ := h
  have i1 : ∀ {B : Type} {k : Option B}, gi (nI a + (1:Int32)) L k = k := fun {B k} => by rw [nI_s1]; exact gi_ok (by omega) (by omega)
  have i2 : ∀ {B : Type} {k : Option B}, gi (nI a + (2:Int32)) L k = k := fun {B k} => by rw [show nI a + (2:Int32) = nI (a + 2) from q_add a 2]; exact gi_ok (by omega) (by omega)
  have i3 : ∀ {B : Type} {k : Option B}, gi (nI a + (3:Int32)) L k = k := fun {B k} => by rw [show nI a + (3:Int32) = nI (a + 3) from q_add a 3]; exact gi_ok (by omega) (by omega)
  obtain ⟨t, w, ou, ans, q, e1, e2, e3, r, e5⟩ : ∃ t, ∃ (w : (StV × PaV)), ∃ ou ans q, f_L_leave v1 v5 v11 (xs (nI a + (1:Int32)).toNatClampNeg) = some (t, (w.1, w.2, ou)) ∧ f_X6_leave (th, z, past, pm, sl, sv, sp, tx, ty, hp, mi, pot, rd, spt, wr) (xs (nI a + (1:Int32)).toNatClampNeg) = some (ans, q) ∧ Md_thrown q = t ∧ _ ∧ (t = 0 → ou 0 = ans.toInt64) := by
    unfold f_L_leave
    refine bh_two Int32.toInt64 (fun (w : (StV × PaV)) ou => (w.1, w.2, ou)) v11 (act_leave hp9 hv (xs (nI a + (1:Int32)).toNatClampNeg)) (fun y w => ?_) (fun s w k k1 => ?_) (fun s k k1 => ?_)
    · simp only [g0_1, lt_e, c0, Ou_out, Ou_out_s]
    · rcases k1 with ⟨rfl, rfl⟩ | ⟨rfl, rfl⟩ <;> simp only [IAE, ISE, IOB, String.reduceEq, ↓reduceIte]
    · rcases k1 with ⟨-, rfl⟩ | ⟨-, rfl⟩ <;> decide
  obtain ⟨t2, z2, p2, pm2, rfl, hv2, hp2⟩ := r
  refine ⟨(w.1, v2, v3, t5, t6, w.2, v6, v7, v8, v9, (t2, z2, p2, pm2, sl, sv, sp, tx, ty, hp, mi, pot, rd, spt, wr), ou), ?_, t2, z2, p2, pm2, sl, sv, sp, tx, ty, hp, mi, pot, rd, spt, wr, rfl, hv2, hp2, ht, hs9, hz⟩
  simp only [f_law_1053, i1, i2, i3, lt_e, e1, e2, bd_s]
  exact fin_ok e3 e5
theorem case_1109 (hL : L ≤ 2048) (ha : a + 4 ≤ L) (h : Lw v1 v5 v6 v7 v8 v9 v10) : ∃ w, f_law_1109 xs L (nI a) v1 v2 v3 t5 t6 v5 v6 v7 v8 v9 v10 v11 = some w ∧ LwW w := by
  obtain ⟨th, z, past, pm, sl, sv, sp, tx, ty, hp, mi, pot, rd, spt, wr, rfl, hv, hp9, ht, hs9, hz⟩ := h
  have i1 : ∀ {B : Type} {k : Option B}, gi (nI a + (1:Int32)) L k = k := fun {B k} => by rw [nI_s1]; exact gi_ok (by omega) (by omega)
  have i2 : ∀ {B : Type} {k : Option B}, gi (nI a + (2:Int32)) L k = k := fun {B k} => by rw [show nI a + (2:Int32) = nI (a + 2) from q_add a 2]; exact gi_ok (by omega) (by omega)
  have i3 : ∀ {B : Type} {k : Option B}, gi (nI a + (3:Int32)) L k = k := fun {B k} => by rw [show nI a + (3:Int32) = nI (a + 3) from q_add a 3]; exact gi_ok (by omega) (by omega)
  obtain ⟨t, w, ou, ans, q, e1, e2, e3, r, e5⟩ : ∃ t, ∃ (w : (StV × PaV)), ∃ ou ans q, f_L_repay v1 v5 v11 (xs (nI a + (1:Int32)).toNatClampNeg) (xs (nI a + (2:Int32)).toNatClampNeg) = some (t, (w.1, w.2, ou)) ∧ f_X6_repay (th, z, past, pm, sl, sv, sp, tx, ty, hp, mi, pot, rd, spt, wr) (xs (nI a + (1:Int32)).toNatClampNeg) (xs (nI a + (2:Int32)).toNatClampNeg) = some (ans, q) ∧ Md_thrown q = t ∧ _ ∧ (t = 0 → ou 0 = ans.toInt64) := by
    unfold f_L_repay
    refine bh_two Int32.toInt64 (fun (w : (StV × PaV)) ou => (w.1, w.2, ou)) v11 (act_repay hp9 hv (xs (nI a + (1:Int32)).toNatClampNeg) (xs (nI a + (2:Int32)).toNatClampNeg)) (fun y w => ?_) (fun s w k k1 => ?_) (fun s k k1 => ?_)
    · simp only [g0_1, lt_e, c0, Ou_out, Ou_out_s]
    · rcases k1 with ⟨rfl, rfl⟩ | ⟨rfl, rfl⟩ <;> simp only [IAE, ISE, IOB, String.reduceEq, ↓reduceIte]
    · rcases k1 with ⟨-, rfl⟩ | ⟨-, rfl⟩ <;> decide
  obtain ⟨t2, z2, p2, pm2, rfl, hv2, hp2⟩ := r
  refine ⟨(w.1, v2, v3, t5, t6, w.2, v6, v7, v8, v9, (t2, z2, p2, pm2, sl, sv, sp, tx, ty, hp, mi, pot, rd, spt, wr), ou), ?_, t2, z2, p2, pm2, sl, sv, sp, tx, ty, hp, mi, pot, rd, spt, wr, rfl, hv2, hp2, ht, hs9, hz⟩
  simp only [f_law_1109, i1, i2, i3, lt_e, e1, e2, bd_s]
  exact fin_ok e3 e5
theorem case_1177 (hL : L ≤ 2048) (ha : a + 4 ≤ L) (h : Lw v1 v5 v6 v7 v8 v9 v10) : ∃ w, f_law_1177 xs L (nI a) v1 v2 v3 t5 t6 v5 v6 v7 v8 v9 v10 v11 = some w ∧ LwW w := by
  obtain ⟨th, z, past, pm, sl, sv, sp, tx, ty, hp, mi, pot, rd, spt, wr, rfl, hv, hp9, ht, hs9, hz⟩ := h
  have i1 : ∀ {B : Type} {k : Option B}, gi (nI a + (1:Int32)) L k = k := fun {B k} => by rw [nI_s1]; exact gi_ok (by omega) (by omega)
  have i2 : ∀ {B : Type} {k : Option B}, gi (nI a + (2:Int32)) L k = k := fun {B k} => by rw [show nI a + (2:Int32) = nI (a + 2) from q_add a 2]; exact gi_ok (by omega) (by omega)
  have i3 : ∀ {B : Type} {k : Option B}, gi (nI a + (3:Int32)) L k = k := fun {B k} => by rw [show nI a + (3:Int32) = nI (a + 3) from q_add a 3]; exact gi_ok (by omega) (by omega)
  obtain ⟨t, w, ou, ans, q, e1, e2, e3, r, e5⟩ : ∃ t, ∃ (w : (StV × PaV)), ∃ ou ans q, f_L_undo v1 v5 v11  = some (t, (w.1, w.2, ou)) ∧ f_X6_undo (th, z, past, pm, sl, sv, sp, tx, ty, hp, mi, pot, rd, spt, wr)  = some (ans, q) ∧ Md_thrown q = t ∧ _ ∧ (t = 0 → ou 0 = ans.toInt64) := by
    unfold f_L_undo
    refine bh_two Int32.toInt64 (fun (w : (StV × PaV)) ou => (w.1, w.2, ou)) v11 (act_undo hp9 hv) (fun y w => ?_) (fun s w k k1 => ?_) (fun s k k1 => ?_)
    · simp only [g0_1, lt_e, c0, Ou_out, Ou_out_s]
    · rcases k1 with ⟨rfl, rfl⟩ <;> simp only [IAE, ISE, IOB, String.reduceEq, ↓reduceIte]
    · rcases k1 with ⟨-, rfl⟩ <;> decide
  obtain ⟨t2, z2, p2, pm2, rfl, hv2, hp2⟩ := r
  refine ⟨(w.1, v2, v3, t5, t6, w.2, v6, v7, v8, v9, (t2, z2, p2, pm2, sl, sv, sp, tx, ty, hp, mi, pot, rd, spt, wr), ou), ?_, t2, z2, p2, pm2, sl, sv, sp, tx, ty, hp, mi, pot, rd, spt, wr, rfl, hv2, hp2, ht, hs9, hz⟩
  simp only [f_law_1177, i1, i2, i3, lt_e, e1, e2, bd_s]
  exact fin_ok e3 e5
theorem case_1247 (hL : L ≤ 2048) (ha : a + 4 ≤ L) (h : Lw v1 v5 v6 v7 v8 v9 v10) : ∃ w, f_law_1247 xs L (nI a) v1 v2 v3 t5 t6 v5 v6 v7 v8 v9 v10 v11 = some w ∧ LwW w := by
  obtain ⟨th, z, past, pm, sl, sv, sp, tx, ty, hp, mi, pot, rd, spt, wr, rfl, hv, hp9, ht, hs9, hz⟩ := h
  have i1 : ∀ {B : Type} {k : Option B}, gi (nI a + (1:Int32)) L k = k := fun {B k} => by rw [nI_s1]; exact gi_ok (by omega) (by omega)
  have i2 : ∀ {B : Type} {k : Option B}, gi (nI a + (2:Int32)) L k = k := fun {B k} => by rw [show nI a + (2:Int32) = nI (a + 2) from q_add a 2]; exact gi_ok (by omega) (by omega)
  have i3 : ∀ {B : Type} {k : Option B}, gi (nI a + (3:Int32)) L k = k := fun {B k} => by rw [show nI a + (3:Int32) = nI (a + 3) from q_add a 3]; exact gi_ok (by omega) (by omega)
  obtain ⟨t, w, ou, ans, q, e1, e2, e3, r, e5⟩ : ∃ t, ∃ (w : (StV × RdV)), ∃ ou ans q, f_L_change v1 v2 v3 v11 (xs (nI a + (1:Int32)).toNatClampNeg) = some (t, (w.1, w.2, ou)) ∧ f_X6_change (th, z, past, pm, sl, sv, sp, tx, ty, hp, mi, pot, rd, spt, wr) (xs (nI a + (1:Int32)).toNatClampNeg) = some (ans, q) ∧ Md_thrown q = t ∧ _ ∧ (t = 0 → ou 0 = ans.toInt64) := by
    unfold f_L_change
    refine bh_two Int32.toInt64 (fun (w : (StV × RdV)) ou => (w.1, w.2, ou)) v11 (try_change hv v2 v3 (xs (nI a + (1:Int32)).toNatClampNeg)) (fun y w => ?_) (fun s w k k1 => ?_) (fun s k k1 => ?_)
    · simp only [g0_1, lt_e, c0, Ou_out, Ou_out_s]
    · rcases k1 with ⟨rfl, rfl⟩ <;> simp only [IAE, ISE, IOB, String.reduceEq, ↓reduceIte]
    · rcases k1 with ⟨-, rfl⟩ <;> decide
  obtain ⟨t2, s2, h2, m2, o2, rfl⟩ := r
  refine ⟨(v1, w.1, w.2, t5, t6, v5, v6, v7, v8, v9, (t2, z, past, pm, sl, sv, s2, tx, ty, h2, m2, o2, rd, spt, wr), ou), ?_, t2, z, past, pm, sl, sv, s2, tx, ty, h2, m2, o2, rd, spt, wr, rfl, hv, hp9, ht, hs9, hz⟩
  simp only [f_law_1247, i1, i2, i3, lt_e, e1, e2, bd_s]
  exact fin_ok e3 e5
theorem case_1303 (hL : L ≤ 2048) (ha : a + 4 ≤ L) (h : Lw v1 v5 v6 v7 v8 v9 v10) : ∃ w, f_law_1303 xs L (nI a) v1 v2 v3 t5 t6 v5 v6 v7 v8 v9 v10 v11 = some w ∧ LwW w := by
  obtain ⟨th, z, past, pm, sl, sv, sp, tx, ty, hp, mi, pot, rd, spt, wr, rfl, hv, hp9, ht, hs9, hz⟩ := h
  have i1 : ∀ {B : Type} {k : Option B}, gi (nI a + (1:Int32)) L k = k := fun {B k} => by rw [nI_s1]; exact gi_ok (by omega) (by omega)
  have i2 : ∀ {B : Type} {k : Option B}, gi (nI a + (2:Int32)) L k = k := fun {B k} => by rw [show nI a + (2:Int32) = nI (a + 2) from q_add a 2]; exact gi_ok (by omega) (by omega)
  have i3 : ∀ {B : Type} {k : Option B}, gi (nI a + (3:Int32)) L k = k := fun {B k} => by rw [show nI a + (3:Int32) = nI (a + 3) from q_add a 3]; exact gi_ok (by omega) (by omega)
  obtain ⟨t, w, ou, ans, q, e1, e2, e3, r, e5⟩ : ∃ t, ∃ (w : (StV × RdV)), ∃ ou ans q, f_L_leastBid v1 v2 v3 v11 (xs (nI a + (1:Int32)).toNatClampNeg) = some (t, (w.1, w.2, ou)) ∧ f_X6_leastBid (th, z, past, pm, sl, sv, sp, tx, ty, hp, mi, pot, rd, spt, wr) (xs (nI a + (1:Int32)).toNatClampNeg) = some (ans, q) ∧ Md_thrown q = t ∧ _ ∧ (t = 0 → ou 0 = ans.toInt64) := by
    unfold f_L_leastBid
    refine bh_two Int32.toInt64 (fun (w : (StV × RdV)) ou => (w.1, w.2, ou)) v11 (try_leastBid hv v2 v3 (xs (nI a + (1:Int32)).toNatClampNeg)) (fun y w => ?_) (fun s w k k1 => ?_) (fun s k k1 => ?_)
    · simp only [g0_1, lt_e, c0, Ou_out, Ou_out_s]
    · rcases k1 with ⟨rfl, rfl⟩ <;> simp only [IAE, ISE, IOB, String.reduceEq, ↓reduceIte]
    · rcases k1 with ⟨-, rfl⟩ <;> decide
  obtain ⟨t2, s2, h2, m2, o2, rfl⟩ := r
  refine ⟨(v1, w.1, w.2, t5, t6, v5, v6, v7, v8, v9, (t2, z, past, pm, sl, sv, s2, tx, ty, h2, m2, o2, rd, spt, wr), ou), ?_, t2, z, past, pm, sl, sv, s2, tx, ty, h2, m2, o2, rd, spt, wr, rfl, hv, hp9, ht, hs9, hz⟩
  simp only [f_law_1303, i1, i2, i3, lt_e, e1, e2, bd_s]
  exact fin_ok e3 e5
theorem case_1372 (hL : L ≤ 2048) (ha : a + 4 ≤ L) (h : Lw v1 v5 v6 v7 v8 v9 v10) : ∃ w, f_law_1372 xs L (nI a) v1 v2 v3 t5 t6 v5 v6 v7 v8 v9 v10 v11 = some w ∧ LwW w := by
  obtain ⟨th, z, past, pm, sl, sv, sp, tx, ty, hp, mi, pot, rd, spt, wr, rfl, hv, hp9, ht, hs9, hz⟩ := h
  have i1 : ∀ {B : Type} {k : Option B}, gi (nI a + (1:Int32)) L k = k := fun {B k} => by rw [nI_s1]; exact gi_ok (by omega) (by omega)
  have i2 : ∀ {B : Type} {k : Option B}, gi (nI a + (2:Int32)) L k = k := fun {B k} => by rw [show nI a + (2:Int32) = nI (a + 2) from q_add a 2]; exact gi_ok (by omega) (by omega)
  have i3 : ∀ {B : Type} {k : Option B}, gi (nI a + (3:Int32)) L k = k := fun {B k} => by rw [show nI a + (3:Int32) = nI (a + 3) from q_add a 3]; exact gi_ok (by omega) (by omega)
  obtain ⟨t, w, ou, ans, q, e1, e2, e3, r, e5⟩ : ∃ t, ∃ (w : (StV × RdV)), ∃ ou ans q, f_L_when v1 v2 v3 v11 (xs (nI a + (1:Int32)).toNatClampNeg) = some (t, (w.1, w.2, ou)) ∧ f_X6_when (th, z, past, pm, sl, sv, sp, tx, ty, hp, mi, pot, rd, spt, wr) (xs (nI a + (1:Int32)).toNatClampNeg) = some (ans, q) ∧ Md_thrown q = t ∧ _ ∧ (t = 0 → ou 0 = ans.toInt64) := by
    unfold f_L_when
    refine bh_two Int32.toInt64 (fun (w : (StV × RdV)) ou => (w.1, w.2, ou)) v11 (try_when hv v2 v3 (xs (nI a + (1:Int32)).toNatClampNeg)) (fun y w => ?_) (fun s w k k1 => ?_) (fun s k k1 => ?_)
    · simp only [g0_1, lt_e, c0, Ou_out, Ou_out_s]
    · rcases k1 with ⟨rfl, rfl⟩ <;> simp only [IAE, ISE, IOB, String.reduceEq, ↓reduceIte]
    · rcases k1 with ⟨-, rfl⟩ <;> decide
  obtain ⟨t2, s2, h2, m2, o2, rfl⟩ := r
  refine ⟨(v1, w.1, w.2, t5, t6, v5, v6, v7, v8, v9, (t2, z, past, pm, sl, sv, s2, tx, ty, h2, m2, o2, rd, spt, wr), ou), ?_, t2, z, past, pm, sl, sv, s2, tx, ty, h2, m2, o2, rd, spt, wr, rfl, hv, hp9, ht, hs9, hz⟩
  simp only [f_law_1372, i1, i2, i3, lt_e, e1, e2, bd_s]
  exact fin_ok e3 e5
theorem case_1428 (hL : L ≤ 2048) (ha : a + 4 ≤ L) (h : Lw v1 v5 v6 v7 v8 v9 v10) : ∃ w, f_law_1428 xs L (nI a) v1 v2 v3 t5 t6 v5 v6 v7 v8 v9 v10 v11 = some w ∧ LwW w := by
  obtain ⟨th, z, past, pm, sl, sv, sp, tx, ty, hp, mi, pot, rd, spt, wr, rfl, hv, hp9, ht, hs9, hz⟩ := h
  have i1 : ∀ {B : Type} {k : Option B}, gi (nI a + (1:Int32)) L k = k := fun {B k} => by rw [nI_s1]; exact gi_ok (by omega) (by omega)
  have i2 : ∀ {B : Type} {k : Option B}, gi (nI a + (2:Int32)) L k = k := fun {B k} => by rw [show nI a + (2:Int32) = nI (a + 2) from q_add a 2]; exact gi_ok (by omega) (by omega)
  have i3 : ∀ {B : Type} {k : Option B}, gi (nI a + (3:Int32)) L k = k := fun {B k} => by rw [show nI a + (3:Int32) = nI (a + 3) from q_add a 3]; exact gi_ok (by omega) (by omega)
  obtain ⟨t, w, ou, ans, q, e1, e2, e3, r, e5⟩ : ∃ t, ∃ (w : (StV × RdV)), ∃ ou ans q, f_L_inTheEnd v1 v2 v3 v11 (xs (nI a + (1:Int32)).toNatClampNeg) = some (t, (w.1, w.2, ou)) ∧ f_X6_inTheEnd (th, z, past, pm, sl, sv, sp, tx, ty, hp, mi, pot, rd, spt, wr) (xs (nI a + (1:Int32)).toNatClampNeg) = some (ans, q) ∧ Md_thrown q = t ∧ _ ∧ (t = 0 → ou 0 = ans.toInt64) := by
    unfold f_L_inTheEnd
    refine bh_two Int32.toInt64 (fun (w : (StV × RdV)) ou => (w.1, w.2, ou)) v11 (try_inTheEnd hv v2 v3 (xs (nI a + (1:Int32)).toNatClampNeg)) (fun y w => ?_) (fun s w k k1 => ?_) (fun s k k1 => ?_)
    · simp only [g0_1, lt_e, c0, Ou_out, Ou_out_s]
    · rcases k1 with ⟨rfl, rfl⟩ <;> simp only [IAE, ISE, IOB, String.reduceEq, ↓reduceIte]
    · rcases k1 with ⟨-, rfl⟩ <;> decide
  obtain ⟨t2, s2, h2, m2, o2, rfl⟩ := r
  refine ⟨(v1, w.1, w.2, t5, t6, v5, v6, v7, v8, v9, (t2, z, past, pm, sl, sv, s2, tx, ty, h2, m2, o2, rd, spt, wr), ou), ?_, t2, z, past, pm, sl, sv, s2, tx, ty, h2, m2, o2, rd, spt, wr, rfl, hv, hp9, ht, hs9, hz⟩
  simp only [f_law_1428, i1, i2, i3, lt_e, e1, e2, bd_s]
  exact fin_ok e3 e5
theorem case_1484 (hL : L ≤ 2048) (ha : a + 4 ≤ L) (h : Lw v1 v5 v6 v7 v8 v9 v10) : ∃ w, f_law_1484 xs L (nI a) v1 v2 v3 t5 t6 v5 v6 v7 v8 v9 v10 v11 = some w ∧ LwW w := by
  obtain ⟨th, z, past, pm, sl, sv, sp, tx, ty, hp, mi, pot, rd, spt, wr, rfl, hv, hp9, ht, hs9, hz⟩ := h
  have i1 : ∀ {B : Type} {k : Option B}, gi (nI a + (1:Int32)) L k = k := fun {B k} => by rw [nI_s1]; exact gi_ok (by omega) (by omega)
  have i2 : ∀ {B : Type} {k : Option B}, gi (nI a + (2:Int32)) L k = k := fun {B k} => by rw [show nI a + (2:Int32) = nI (a + 2) from q_add a 2]; exact gi_ok (by omega) (by omega)
  have i3 : ∀ {B : Type} {k : Option B}, gi (nI a + (3:Int32)) L k = k := fun {B k} => by rw [show nI a + (3:Int32) = nI (a + 3) from q_add a 3]; exact gi_ok (by omega) (by omega)
  obtain ⟨t, w, ou, ans, q, e1, e2, e3, r, e5⟩ : ∃ t, ∃ (w : (StV × RdV)), ∃ ou ans q, f_L_runScript v1 t5 t6 v11 (xs (nI a + (1:Int32)).toNatClampNeg) (((xs (nI a + (2:Int32)).toNatClampNeg).toInt64 <<< ((32:Int32).toInt64 &&& 63)) ||| ((xs (nI a + (3:Int32)).toNatClampNeg).toInt64 &&& (4294967295:Int64))) = some (t, (w.1, w.2, ou)) ∧ f_X6_runScript (th, z, past, pm, sl, sv, sp, tx, ty, hp, mi, pot, rd, spt, wr) (xs (nI a + (1:Int32)).toNatClampNeg) (((xs (nI a + (2:Int32)).toNatClampNeg).toInt64 <<< ((32:Int32).toInt64 &&& 63)) ||| ((xs (nI a + (3:Int32)).toNatClampNeg).toInt64 &&& (4294967295:Int64))) = some (ans, q) ∧ Md_thrown q = t ∧ _ ∧ (t = 0 → ou 0 = ans.toInt64) := by
    unfold f_L_runScript
    refine bh_two Int32.toInt64 (fun (w : (StV × RdV)) ou => (w.1, w.2, ou)) v11 (try_runScript hv t5 t6 (xs (nI a + (1:Int32)).toNatClampNeg) (((xs (nI a + (2:Int32)).toNatClampNeg).toInt64 <<< ((32:Int32).toInt64 &&& 63)) ||| ((xs (nI a + (3:Int32)).toNatClampNeg).toInt64 &&& (4294967295:Int64)))) (fun y w => ?_) (fun s w k k1 => ?_) (fun s k k1 => ?_)
    · simp only [g0_1, lt_e, c0, Ou_out, Ou_out_s]
    · rcases k1 with ⟨rfl, rfl⟩ <;> simp only [IAE, ISE, IOB, String.reduceEq, ↓reduceIte]
    · rcases k1 with ⟨-, rfl⟩ <;> decide
  obtain ⟨t2, s2, h2, m2, o2, rfl⟩ := r
  refine ⟨(v1, v2, v3, w.1, w.2, v5, v6, v7, v8, v9, (t2, z, past, pm, sl, sv, s2, tx, ty, h2, m2, o2, rd, spt, wr), ou), ?_, t2, z, past, pm, sl, sv, s2, tx, ty, h2, m2, o2, rd, spt, wr, rfl, hv, hp9, ht, hs9, hz⟩
  simp only [f_law_1484, i1, i2, i3, lt_e, e1, e2, bd_s]
  exact fin_ok e3 e5
theorem case_1584 (hL : L ≤ 2048) (ha : a + 4 ≤ L) (h : Lw v1 v5 v6 v7 v8 v9 v10) : ∃ w, f_law_1584 xs L (nI a) v1 v2 v3 t5 t6 v5 v6 v7 v8 v9 v10 v11 = some w ∧ LwW w := by
  obtain ⟨th, z, past, pm, sl, sv, sp, tx, ty, hp, mi, pot, rd, spt, wr, rfl, hv, hp9, ht, hs9, hz⟩ := h
  have i1 : ∀ {B : Type} {k : Option B}, gi (nI a + (1:Int32)) L k = k := fun {B k} => by rw [nI_s1]; exact gi_ok (by omega) (by omega)
  have i2 : ∀ {B : Type} {k : Option B}, gi (nI a + (2:Int32)) L k = k := fun {B k} => by rw [show nI a + (2:Int32) = nI (a + 2) from q_add a 2]; exact gi_ok (by omega) (by omega)
  have i3 : ∀ {B : Type} {k : Option B}, gi (nI a + (3:Int32)) L k = k := fun {B k} => by rw [show nI a + (3:Int32) = nI (a + 3) from q_add a 3]; exact gi_ok (by omega) (by omega)
  obtain ⟨t, w, ou, ans, q, e1, e2, e3, r, e5⟩ : ∃ t, ∃ (w : (StV × RdV)), ∃ ou ans q, f_L_simulate v1 v2 v3 v11 (((xs (nI a + (1:Int32)).toNatClampNeg).toInt64 <<< ((32:Int32).toInt64 &&& 63)) ||| ((xs (nI a + (2:Int32)).toNatClampNeg).toInt64 &&& (4294967295:Int64))) (xs (nI a + (3:Int32)).toNatClampNeg) = some (t, (w.1, w.2, ou)) ∧ f_X6_simulate (th, z, past, pm, sl, sv, sp, tx, ty, hp, mi, pot, rd, spt, wr) (((xs (nI a + (1:Int32)).toNatClampNeg).toInt64 <<< ((32:Int32).toInt64 &&& 63)) ||| ((xs (nI a + (2:Int32)).toNatClampNeg).toInt64 &&& (4294967295:Int64))) (xs (nI a + (3:Int32)).toNatClampNeg) = some (ans, q) ∧ Md_thrown q = t ∧ _ ∧ (t = 0 → ou 0 = ans.toInt64) := by
    unfold f_L_simulate
    refine bh_two Int32.toInt64 (fun (w : (StV × RdV)) ou => (w.1, w.2, ou)) v11 (try_simulate hv v2 v3 (((xs (nI a + (1:Int32)).toNatClampNeg).toInt64 <<< ((32:Int32).toInt64 &&& 63)) ||| ((xs (nI a + (2:Int32)).toNatClampNeg).toInt64 &&& (4294967295:Int64))) (xs (nI a + (3:Int32)).toNatClampNeg)) (fun y w => ?_) (fun s w k k1 => ?_) (fun s k k1 => ?_)
    · simp only [g0_1, lt_e, c0, Ou_out, Ou_out_s]
    · rcases k1 with ⟨rfl, rfl⟩ <;> simp only [IAE, ISE, IOB, String.reduceEq, ↓reduceIte]
    · rcases k1 with ⟨-, rfl⟩ <;> decide
  obtain ⟨t2, s2, h2, m2, o2, rfl⟩ := r
  refine ⟨(v1, w.1, w.2, t5, t6, v5, v6, v7, v8, v9, (t2, z, past, pm, sl, sv, s2, tx, ty, h2, m2, o2, rd, spt, wr), ou), ?_, t2, z, past, pm, sl, sv, s2, tx, ty, h2, m2, o2, rd, spt, wr, rfl, hv, hp9, ht, hs9, hz⟩
  simp only [f_law_1584, i1, i2, i3, lt_e, e1, e2, bd_s]
  exact fin_ok e3 e5
theorem case_1684 (hL : L ≤ 2048) (ha : a + 4 ≤ L) (h : Lw v1 v5 v6 v7 v8 v9 v10) : ∃ w, f_law_1684 xs L (nI a) v1 v2 v3 t5 t6 v5 v6 v7 v8 v9 v10 v11 = some w ∧ LwW w := by
  obtain ⟨th, z, past, pm, sl, sv, sp, tx, ty, hp, mi, pot, rd, spt, wr, rfl, hv, hp9, ht, hs9, hz⟩ := h
  have i1 : ∀ {B : Type} {k : Option B}, gi (nI a + (1:Int32)) L k = k := fun {B k} => by rw [nI_s1]; exact gi_ok (by omega) (by omega)
  have i2 : ∀ {B : Type} {k : Option B}, gi (nI a + (2:Int32)) L k = k := fun {B k} => by rw [show nI a + (2:Int32) = nI (a + 2) from q_add a 2]; exact gi_ok (by omega) (by omega)
  have i3 : ∀ {B : Type} {k : Option B}, gi (nI a + (3:Int32)) L k = k := fun {B k} => by rw [show nI a + (3:Int32) = nI (a + 3) from q_add a 3]; exact gi_ok (by omega) (by omega)
  obtain ⟨t, w, ou, ans, q, e1, e2, e3, r, e5⟩ : ∃ t, ∃ (w : (SlV × StV × StV)), ∃ ou ans q, f_L_save v1 v7 v8 v9 v11 (xs (nI a + (1:Int32)).toNatClampNeg) = some (t, (w.1, w.2.1, w.2.2, ou)) ∧ f_X6_save (th, z, past, pm, sl, sv, sp, tx, ty, hp, mi, pot, rd, spt, wr) (xs (nI a + (1:Int32)).toNatClampNeg) = some (ans, q) ∧ Md_thrown q = t ∧ _ ∧ (t = 0 → ou 0 = ans.toInt64) := by
    unfold f_L_save
    refine bh_two Int32.toInt64 (fun (w : (SlV × StV × StV)) ou => (w.1, w.2.1, w.2.2, ou)) v11 (act_save hs9 hv (xs (nI a + (1:Int32)).toNatClampNeg)) (fun y w => ?_) (fun s w k k1 => ?_) (fun s k k1 => ?_)
    · simp only [g0_1, lt_e, c0, Ou_out, Ou_out_s]
    · rcases k1 with ⟨rfl, rfl⟩ <;> simp only [IAE, ISE, IOB, String.reduceEq, ↓reduceIte]
    · rcases k1 with ⟨-, rfl⟩ <;> decide
  obtain ⟨t2, sl2, sv2, rfl, hs2⟩ := r
  refine ⟨(v1, v2, v3, t5, t6, v5, v6, w.1, w.2.1, w.2.2, (t2, z, past, pm, sl2, sv2, sp, tx, ty, hp, mi, pot, rd, spt, wr), ou), ?_, t2, z, past, pm, sl2, sv2, sp, tx, ty, hp, mi, pot, rd, spt, wr, rfl, hv, hp9, ht, hs2, hz⟩
  simp only [f_law_1684, i1, i2, i3, lt_e, e1, e2, bd_s]
  exact fin_ok e3 e5
theorem case_1740 (hL : L ≤ 2048) (ha : a + 4 ≤ L) (h : Lw v1 v5 v6 v7 v8 v9 v10) : ∃ w, f_law_1740 xs L (nI a) v1 v2 v3 t5 t6 v5 v6 v7 v8 v9 v10 v11 = some w ∧ LwW w := by
  obtain ⟨th, z, past, pm, sl, sv, sp, tx, ty, hp, mi, pot, rd, spt, wr, rfl, hv, hp9, ht, hs9, hz⟩ := h
  have i1 : ∀ {B : Type} {k : Option B}, gi (nI a + (1:Int32)) L k = k := fun {B k} => by rw [nI_s1]; exact gi_ok (by omega) (by omega)
  have i2 : ∀ {B : Type} {k : Option B}, gi (nI a + (2:Int32)) L k = k := fun {B k} => by rw [show nI a + (2:Int32) = nI (a + 2) from q_add a 2]; exact gi_ok (by omega) (by omega)
  have i3 : ∀ {B : Type} {k : Option B}, gi (nI a + (3:Int32)) L k = k := fun {B k} => by rw [show nI a + (3:Int32) = nI (a + 3) from q_add a 3]; exact gi_ok (by omega) (by omega)
  obtain ⟨t, w, ou, ans, q, e1, e2, e3, r, e5⟩ : ∃ t, ∃ (w : (StV × PaV)), ∃ ou ans q, f_L_restore v1 v5 v7 v8 v9 v11 (xs (nI a + (1:Int32)).toNatClampNeg) = some (t, (w.1, w.2, ou)) ∧ f_X6_restore (th, z, past, pm, sl, sv, sp, tx, ty, hp, mi, pot, rd, spt, wr) (xs (nI a + (1:Int32)).toNatClampNeg) = some (ans, q) ∧ Md_thrown q = t ∧ _ ∧ (t = 0 → ou 0 = ans.toInt64) := by
    unfold f_L_restore
    refine bh_two Int32.toInt64 (fun (w : (StV × PaV)) ou => (w.1, w.2, ou)) v11 (act_restore hp9 hs9 hv (xs (nI a + (1:Int32)).toNatClampNeg)) (fun y w => ?_) (fun s w k k1 => ?_) (fun s k k1 => ?_)
    · simp only [g0_1, lt_e, c0, Ou_out, Ou_out_s]
    · rcases k1 with ⟨rfl, rfl⟩ | ⟨rfl, rfl⟩ <;> simp only [IAE, ISE, IOB, String.reduceEq, ↓reduceIte]
    · rcases k1 with ⟨-, rfl⟩ | ⟨-, rfl⟩ <;> decide
  obtain ⟨t2, z2, p2, pm2, rfl, hv2, hp2⟩ := r
  refine ⟨(w.1, v2, v3, t5, t6, w.2, v6, v7, v8, v9, (t2, z2, p2, pm2, sl, sv, sp, tx, ty, hp, mi, pot, rd, spt, wr), ou), ?_, t2, z2, p2, pm2, sl, sv, sp, tx, ty, hp, mi, pot, rd, spt, wr, rfl, hv2, hp2, ht, hs9, hz⟩
  simp only [f_law_1740, i1, i2, i3, lt_e, e1, e2, bd_s]
  exact fin_ok e3 e5
theorem case_228 (hL : L ≤ 2048) (ha : a + 4 ≤ L) (h : Lw v1 v5 v6 v7 v8 v9 v10) : ∃ w, f_law_228 xs L (nI a) v1 v2 v3 t5 t6 v5 v6 v7 v8 v9 v10 v11 = some w ∧ LwW w := by
  obtain ⟨th, z, past, pm, sl, sv, sp, tx, ty, hp, mi, pot, rd, spt, wr, rfl, hv, hp9, ht, hs9, hz⟩ := h
  obtain ⟨x, b, e1, e2, e3, r⟩ := tw_get (do_clear ht (th := th) (z := z) (past := past) (pm := pm) (sl := sl) (sv := sv) (sp := sp) (tx := tx) (ty := ty) (hp := hp) (mi := mi) (pot := pot) (rd := rd) (spt := spt) (wr := wr))
  obtain ⟨ans, q⟩ := b
  obtain ⟨t2, ty2, hq, ht2⟩ := r
  have hq : q = _ := hq
  subst hq
  refine ⟨(v1, v2, v3, t5, t6, v5, x.2, v7, v8, v9, (t2, z, past, pm, sl, sv, sp, tx, ty2, hp, mi, pot, rd, spt, wr), v11), ?_, t2, z, past, pm, sl, sv, sp, tx, ty2, hp, mi, pot, rd, spt, wr, rfl, hv, hp9, ht2, hs9, hz⟩
  simp only [f_law_228, e1, e2, bd_s]
  exact if_pos e3
theorem case_241 (hL : L ≤ 2048) (ha : a + 4 ≤ L) (h : Lw v1 v5 v6 v7 v8 v9 v10) : ∃ w, f_law_241 xs L (nI a) v1 v2 v3 t5 t6 v5 v6 v7 v8 v9 v10 v11 = some w ∧ LwW w := by
  obtain ⟨th, z, past, pm, sl, sv, sp, tx, ty, hp, mi, pot, rd, spt, wr, rfl, hv, hp9, ht, hs9, hz⟩ := h
  obtain ⟨x, b, e1, e2, e3, r⟩ := tw_get (do_errorPosition ht hz v2 (th := th) (z := z) (past := past) (pm := pm) (sl := sl) (sv := sv) (sp := sp) (tx := tx) (ty := ty) (hp := hp) (mi := mi) (pot := pot) (rd := rd) (spt := spt) (wr := wr))
  obtain ⟨ans, q⟩ := b
  obtain ⟨t2, rd2, s2, w2, hq, hz2, ht2⟩ := r
  have hq : q = _ := hq
  subst hq
  refine ⟨(v1, x.2.1, v3, t5, t6, v5, x.2.2, v7, v8, v9, (t2, z, past, pm, sl, sv, sp, tx, ty, hp, mi, pot, rd2, s2, w2), v11), ?_, t2, z, past, pm, sl, sv, sp, tx, ty, hp, mi, pot, rd2, s2, w2, rfl, hv, hp9, ht2, hs9, hz2⟩
  simp only [f_law_241, e1, e2, bd_s]
  exact if_pos e3
theorem case_1221 (hL : L ≤ 2048) (ha : a + 4 ≤ L) (h : Lw v1 v5 v6 v7 v8 v9 v10) : ∃ w, f_law_1221 xs L (nI a) v1 v2 v3 t5 t6 v5 v6 v7 v8 v9 v10 v11 = some w ∧ LwW w := by
  obtain ⟨th, z, past, pm, sl, sv, sp, tx, ty, hp, mi, pot, rd, spt, wr, rfl, hv, hp9, ht, hs9, hz⟩ := h
  obtain ⟨x, b, e1, e2, e3, t2, s2, h2, m2, o2, hq⟩ := (try_winner hv v2 v3 (th := th) (past := past) (pm := pm) (sl := sl) (sv := sv) (sp := sp) (tx := tx) (ty := ty) (hp := hp) (mi := mi) (pot := pot) (rd := rd) (spt := spt) (wr := wr))
  obtain ⟨ans, q⟩ := b
  have hq : q = _ := hq
  subst hq
  refine ⟨(v1, x.2.1, x.2.2, t5, t6, v5, v6, v7, v8, v9, (t2, z, past, pm, sl, sv, s2, tx, ty, h2, m2, o2, rd, spt, wr), v11), ?_, t2, z, past, pm, sl, sv, s2, tx, ty, h2, m2, o2, rd, spt, wr, rfl, hv, hp9, ht, hs9, hz⟩
  simp only [f_law_1221, e1, e2, bd_s]
  exact if_pos e3
theorem case_1234 (hL : L ≤ 2048) (ha : a + 4 ≤ L) (h : Lw v1 v5 v6 v7 v8 v9 v10) : ∃ w, f_law_1234 xs L (nI a) v1 v2 v3 t5 t6 v5 v6 v7 v8 v9 v10 v11 = some w ∧ LwW w := by
  obtain ⟨th, z, past, pm, sl, sv, sp, tx, ty, hp, mi, pot, rd, spt, wr, rfl, hv, hp9, ht, hs9, hz⟩ := h
  obtain ⟨x, b, e1, e2, e3, t2, s2, h2, m2, o2, hq⟩ := (try_pot hv v2 v3 (th := th) (past := past) (pm := pm) (sl := sl) (sv := sv) (sp := sp) (tx := tx) (ty := ty) (hp := hp) (mi := mi) (pot := pot) (rd := rd) (spt := spt) (wr := wr))
  obtain ⟨ans, q⟩ := b
  have hq : q = _ := hq
  subst hq
  refine ⟨(v1, x.2.1, x.2.2, t5, t6, v5, v6, v7, v8, v9, (t2, z, past, pm, sl, sv, s2, tx, ty, h2, m2, o2, rd, spt, wr), v11), ?_, t2, z, past, pm, sl, sv, s2, tx, ty, h2, m2, o2, rd, spt, wr, rfl, hv, hp9, ht, hs9, hz⟩
  simp only [f_law_1234, e1, e2, bd_s]
  exact if_pos e3
theorem case_1359 (hL : L ≤ 2048) (ha : a + 4 ≤ L) (h : Lw v1 v5 v6 v7 v8 v9 v10) : ∃ w, f_law_1359 xs L (nI a) v1 v2 v3 t5 t6 v5 v6 v7 v8 v9 v10 v11 = some w ∧ LwW w := by
  obtain ⟨th, z, past, pm, sl, sv, sp, tx, ty, hp, mi, pot, rd, spt, wr, rfl, hv, hp9, ht, hs9, hz⟩ := h
  obtain ⟨x, b, e1, e2, e3, t2, s2, h2, m2, o2, hq⟩ := tw_get (try_pillar hv v2 v3 (th := th) (past := past) (pm := pm) (sl := sl) (sv := sv) (sp := sp) (tx := tx) (ty := ty) (hp := hp) (mi := mi) (pot := pot) (rd := rd) (spt := spt) (wr := wr))
  obtain ⟨ans, q⟩ := b
  have hq : q = _ := hq
  subst hq
  refine ⟨(v1, x.2.1, x.2.2, t5, t6, v5, v6, v7, v8, v9, (t2, z, past, pm, sl, sv, s2, tx, ty, h2, m2, o2, rd, spt, wr), v11), ?_, t2, z, past, pm, sl, sv, s2, tx, ty, h2, m2, o2, rd, spt, wr, rfl, hv, hp9, ht, hs9, hz⟩
  simp only [f_law_1359, e1, e2, bd_s]
  exact if_pos e3
theorem case_850 (hL : L ≤ 2048) (ha : a + 4 ≤ L) (h : Lw v1 v5 v6 v7 v8 v9 v10) : ∃ w, f_law_850 xs L (nI a) v1 v2 v3 t5 t6 v5 v6 v7 v8 v9 v10 v11 = some w ∧ LwW w := by
  obtain ⟨th, z, past, pm, sl, sv, sp, tx, ty, hp, mi, pot, rd, spt, wr, rfl, hv, hp9, ht, hs9, hz⟩ := h
  have i1 : ∀ {B : Type} {k : Option B}, gi (nI a + (1:Int32)) L k = k := fun {B k} => by rw [nI_s1]; exact gi_ok (by omega) (by omega)
  have i2 : ∀ {B : Type} {k : Option B}, gi (nI a + (2:Int32)) L k = k := fun {B k} => by rw [show nI a + (2:Int32) = nI (a + 2) from q_add a 2]; exact gi_ok (by omega) (by omega)
  have i3 : ∀ {B : Type} {k : Option B}, gi (nI a + (3:Int32)) L k = k := fun {B k} => by rw [show nI a + (3:Int32) = nI (a + 3) from q_add a 3]; exact gi_ok (by omega) (by omega)
  have both : ∀ b : Int32, b = 0 ∨ b = 1 → ∃ t, ∃ (w : StV × PaV), ∃ ou ans q, f_L_stayAway v1 v5 v11 (xs (nI a + (1:Int32)).toNatClampNeg) b = some (t, (w.1, w.2, ou)) ∧ f_X6_stayAway (th, z, past, pm, sl, sv, sp, tx, ty, hp, mi, pot, rd, spt, wr) (xs (nI a + (1:Int32)).toNatClampNeg) b = some (ans, q) ∧ Md_thrown q = t ∧ (∃ t z' past' pm', q = (t, z', past', pm', sl, sv, sp, tx, ty, hp, mi, pot, rd, spt, wr) ∧ Now w.1 z' ∧ Pst w.2 past' pm') ∧ (t = 0 → ou 0 = (if ans = (0:Int32) then (0:Int64) else 1)) := by
    intro b hb
    unfold f_L_stayAway
    refine bh_two (fun x => if x = (0:Int32) then (0:Int64) else 1) (fun (w : StV × PaV) ou => (w.1, w.2, ou)) v11 (act_stayAway hp9 hv (xs (nI a + (1:Int32)).toNatClampNeg) b hb) (fun y w => ?_) (fun s w k k1 => ?_) (fun s k k1 => ?_)
    · by_cases q : y = 0
      · simp only [q, g0_1, lt_e, c0, Ou_out, Ou_out_s, ↓reduceIte]
      · simp only [q, g0_1, lt_e, c0, Ou_out, Ou_out_s, ↓reduceIte]
    · rcases k1 with ⟨rfl, rfl⟩
      simp only [IAE, ISE, IOB, String.reduceEq, ↓reduceIte]
    · rcases k1 with ⟨-, rfl⟩
      decide
  by_cases hx : xs (nI a + (2:Int32)).toNatClampNeg = (0:Int32)
  · obtain ⟨t, w, ou, ans, q, e1, e2, e3, ⟨t2, z2, p2, pm2, rfl, hv2, hp2⟩, e5⟩ := both 0 (Or.inl rfl)
    refine ⟨(w.1, v2, v3, t5, t6, w.2, v6, v7, v8, v9, (t2, z2, p2, pm2, sl, sv, sp, tx, ty, hp, mi, pot, rd, spt, wr), ou), ?_, t2, z2, p2, pm2, sl, sv, sp, tx, ty, hp, mi, pot, rd, spt, wr, rfl, hv2, hp2, ht, hs9, hz⟩
    simp only [f_law_850, i1, i2, hx, e1, e2, bd_s, ↓reduceIte]
    exact fin_b e3 e5
  · obtain ⟨t, w, ou, ans, q, e1, e2, e3, ⟨t2, z2, p2, pm2, rfl, hv2, hp2⟩, e5⟩ := both 1 (Or.inr rfl)
    refine ⟨(w.1, v2, v3, t5, t6, w.2, v6, v7, v8, v9, (t2, z2, p2, pm2, sl, sv, sp, tx, ty, hp, mi, pot, rd, spt, wr), ou), ?_, t2, z2, p2, pm2, sl, sv, sp, tx, ty, hp, mi, pot, rd, spt, wr, rfl, hv2, hp2, ht, hs9, hz⟩
    simp only [f_law_850, i1, i2, hx, e1, e2, bd_s, ↓reduceIte]
    exact fin_b e3 e5
end LAW
