/-! the months ahead: when it is one's turn, how it ends -/
theorem Step.det {c m q g : Nat} {v : StV} {w w2 : Int32} {k k2 : Nat} {v' v2 : StV} (h : Step c m q g v w k v') (h2 : Step c m q g v w2 k2 v2) : w2 = w ∧ v2 = v' ∧ nI (q * k2) = nI (q * k) := by
  have z0 : Zi c (fun _ => 0) := fun _ _ => rfl
  have r0 : Rz c (fun _ => 0, fun _ => 0, 0) := ⟨z0, z0⟩
  obtain ⟨r', -, p1, e1, -⟩ := h.2.2.2.2.2.2.2.2.2 _ r0
  obtain ⟨r2, -, p2, e2, -⟩ := h2.2.2.2.2.2.2.2.2.2 _ r0
  have e := Option.some.inj (e1.symm.trans e2)
  simp only [Prod.mk.injEq] at e
  obtain ⟨a, b, c⟩ := e
  exact ⟨a.symm, c.symm, by rw [← p1, ← p2, b]⟩
def May (c m : Nat) (v : StV) : Prop := m ≤ 98 ∧ ∃ j, j < c ∧ St_inside v j = 1
theorem may_ok {c m q g : Nat} {v : StV} (h : Ok c m q g v) : (May c m v ∧ f_X3_mayPass v = some ((1:Int32), ())) ∨ (¬ May c m v ∧ f_X3_mayPass v = some ((0:Int32), ())) := by
  obtain ⟨h1, h2, h3, h4, h5, h6, h7, h8, h9, -⟩ := h.cnt
  obtain ⟨k, k1, k2, k3, k4⟩ := sI_bo h7 c
  have e := inside_n h1 (by omega) h7
  rw [k2] at e
  by_cases q1 : 99 ≤ m
  · refine Or.inr ⟨fun z => by have := z.1; omega, ?_⟩
    simp (disch := omega) only [f_X3_mayPass, h2, le99, q1, ↓reduceIte]
  · by_cases q2 : k = 0
    · refine Or.inr ⟨fun z => ?_, ?_⟩
      · obtain ⟨j, hj, e1⟩ := z.2
        rw [k3 q2 j hj] at e1
        exact absurd e1 (by decide)
      · simp (disch := omega) only [f_X3_mayPass, h2, le99, q1, e, bd_s, ge0, q2, Nat.le_refl, ↓reduceIte]
    · refine Or.inl ⟨⟨by omega, ?_⟩, ?_⟩
      · refine Classical.byContradiction fun z => q2 (k4 fun j hj => ?_)
        rcases h7 j with e1 | e1
        · exact e1
        · exact absurd ⟨j, hj, e1⟩ z
      · have q3 : ¬ k ≤ 0 := by omega
        simp (disch := omega) only [f_X3_mayPass, h2, le99, q1, e, bd_s, ge0, q3, ↓reduceIte]
/-- in which of the next n months it is i's turn -/
def Whe (c q g i : Nat) : Nat → Nat → StV → Int32 → Prop
  | 0, _, _, x => x = (-99999:Int32)
  | n + 1, m, v, x => (¬ May c m v ∧ x = (-99999:Int32)) ∨ (May c m v ∧ ∃ w k v', Step c m q g v w k v' ∧ ((w = nI i ∧ x = nI m) ∨ (¬ w = nI i ∧ Whe c q g i n (m + 1) v' x)))
theorem Whe.is {c q g i : Nat} : ∀ n m v x, Whe c q g i n m v x → x = (-99999:Int32) ∨ ∃ y, m ≤ y ∧ y ≤ 98 ∧ x = nI y
  | 0, m, v, x, h => Or.inl h
  | n + 1, m, v, x, h => by
    rcases h with ⟨-, h⟩ | ⟨hm, w, k, v', -, ⟨-, h⟩ | ⟨-, h⟩⟩
    · exact Or.inl h
    · exact Or.inr ⟨m, Nat.le_refl _, hm.1, h⟩
    · rcases Whe.is n _ _ _ h with e | ⟨y, h1, h2, h3⟩
      · exact Or.inl e
      · exact Or.inr ⟨y, by omega, h2, h3⟩
theorem Whe.more {c q g i : Nat} : ∀ n m v x n' x', Whe c q g i n m v x → ¬ x = (-99999:Int32) → n ≤ n' → Whe c q g i n' m v x' → x' = x
  | 0, m, v, x, n', x', h, hx, _, _ => absurd h hx
  | n + 1, m, v, x, 0, x', h, hx, hn, h' => by omega
  | n + 1, m, v, x, n' + 1, x', h, hx, hn, h' => by
    rcases h with ⟨-, h⟩ | ⟨hm, w, k, v', st, h⟩
    · exact absurd h hx
    · rcases h' with ⟨hm', -⟩ | ⟨-, w2, k2, v2, st2, h'⟩
      · exact absurd hm hm'
      · obtain ⟨rfl, rfl, -⟩ := st.det st2
        rcases h with ⟨e, h⟩ | ⟨e, h⟩
        · rcases h' with ⟨-, h'⟩ | ⟨e', -⟩
          · rw [h, h']
          · exact absurd e e'
        · rcases h' with ⟨e', -⟩ | ⟨-, h'⟩
          · exact absurd e' e
          · exact Whe.more n _ _ _ n' _ h hx (by omega) h'
theorem when_lp {c q g i : Nat} {v0 : StV} (h1 : 1 ≤ c) : ∀ n a m v r, n + a = 20 → Ok c m q g v → Rz c r → ∃ x e, lp (b_X5_when_18 v0 (nI i)) (n + 1) (nI a, v, r) = some e ∧ Whe c q g i n m v x ∧ ((∃ v2 r2, e = .inr (x, (v2, r2)) ∧ Z8 v2 ∧ Rz c r2) ∨ (x = (-99999:Int32) ∧ ∃ y v2 r2, e = .inl (y, v2, r2) ∧ Z8 v2 ∧ Rz c r2))
  | 0, a, m, v, r, ha, ok, hr => by
    have : a = 20 := by omega
    subst this
    have e20 : (20:Int32) ≤ nI 20 := by decide
    refine ⟨(-99999:Int32), .inl (nI 20, v, r), lp_out ?_, rfl, Or.inr ⟨rfl, _, v, r, rfl, ok.z, hr⟩⟩
    simp only [b_X5_when_18, e20, ↓reduceIte]
  | n + 1, a, m, v, r, ha, ok, hr => by
    have n20 : ¬ (20:Int32) ≤ nI a := fun z => by have := (nI_lei (a := 20) (by omega) (by omega)).mp z; omega
    rcases may_ok ok with ⟨hm, e1⟩ | ⟨hm, e1⟩
    · obtain ⟨w, k, v', st⟩ := month_step ok h1 hm.1
      obtain ⟨r', zr, -, e2, -⟩ := st.2.2.2.2.2.2.2.2.2 r hr
      have mo := ok.cnt.2.1
      by_cases q : w = nI i
      · refine ⟨nI m, .inr (nI m, (v', r')), lp_out ?_, Or.inr ⟨hm, w, k, v', st, Or.inl ⟨q, rfl⟩⟩, Or.inl ⟨v', r', rfl, st.1.z, zr⟩⟩
        simp only [b_X5_when_18, n20, e1, bd_s, o_ne, mo, lt_e, e2, q, ↓reduceIte]
      · obtain ⟨x, e, a1, a2, a3⟩ := when_lp (i := i) (v0 := v0) h1 n (a + 1) (m + 1) v' r' (by omega) st.1 zr
        refine ⟨x, e, ?_, Or.inr ⟨hm, w, k, v', st, Or.inr ⟨q, a2⟩⟩, a3⟩
        rw [← a1]
        refine lp_in ?_
        simp only [b_X5_when_18, n20, e1, bd_s, o_ne, mo, lt_e, e2, q, nI_s1, ↓reduceIte]
    · refine ⟨(-99999:Int32), .inl (nI a, v, r), lp_out ?_, Or.inl ⟨hm, rfl⟩, Or.inr ⟨rfl, _, v, r, rfl, ok.z, hr⟩⟩
      simp only [b_X5_when_18, n20, e1, bd_s, ↓reduceIte]
theorem lp_FU {S E : Type} {b : S → Option (S ⊕ E)} {n : Nat} {s : S} {e : E} (hn : n ≤ 1000000) (h : lp b n s = some e) : lp b FU s = some e := lp_mono n FU s e hn h
theorem when_ok {c m q g i : Nat} {v : StV} (ok : Ok c m q g v) (h1 : 1 ≤ c) (hic : i < c) {t : StV} (zt : Z8 t) {r : RdV} (hr : Rz c r) : ∃ x t' r', f_X5_when v t r (nI i) = some (x, (t', r')) ∧ Whe c q g i 20 m v x ∧ Z8 t' ∧ Rz c r' := by
  obtain ⟨x, e, a1, a2, a3⟩ := when_lp (i := i) (v0 := v) h1 20 0 m v r rfl ok hr
  have a1 := lp_FU (by omega) a1
  have a1 : lp (b_X5_when_18 v (nI i)) FU ((0:Int32), v, r) = _ := a1
  have rq := req (n := c) ok.cnt.1 hic (by have := ok.cnt.2.2.2.2.2.2.2.1; omega)
  rcases a3 with ⟨v2, r2, rfl, b1, b2⟩ | ⟨rfl, y, v2, r2, rfl, b1, b2⟩
  · refine ⟨x, v2, r2, ?_, a2, b1, b2⟩
    simp only [f_X5_when, rq, copy_is ok.z zt, bd_s, a1, el]
  · refine ⟨(-99999:Int32), v2, r2, ?_, a2, b1, b2⟩
    simp only [f_X5_when, rq, copy_is ok.z zt, bd_s, a1, el]
/-- waiting members -/
def Wai (c : Nat) (v : StV) : Prop := ∃ j, j < c ∧ St_inside v j = 1 ∧ St_taken v j = 0
theorem wai_ok {c m q g : Nat} {v : StV} (h : Ok c m q g v) : ∃ k, k ≤ 7 ∧ f_X3_countWaiting v = some (nI k, ()) ∧ (0 < k ↔ Wai c v) := by
  obtain ⟨h1, h2, h3, h4, h5, h6, h7, h8, h9, -⟩ := h.cnt
  obtain ⟨k, k1, k2, k3, k4⟩ := sI_bo (wt_bo (St_inside v) (St_taken v)) c
  have e := waiting_n h1 (by omega)
  rw [k2] at e
  refine ⟨k, by omega, e, fun hk => ?_, fun ⟨j, hj, e1, e2⟩ => ?_⟩
  · refine Classical.byContradiction fun z => ?_
    have : k = 0 := k4 fun j hj => by
      unfold wt
      rcases h7 j with e1 | e1
      · rw [if_pos e1]
      · rw [if_neg (by rw [e1]; decide)]
        rcases h6 j with e2 | e2
        · exact absurd ⟨j, hj, e1, e2⟩ z
        · rw [if_neg (by rw [e2]; decide)]
    omega
  · refine Nat.pos_of_ne_zero fun z => ?_
    have := k3 z j hj
    unfold wt at this
    rw [if_neg (by rw [e1]; decide), if_pos e2] at this
    exact absurd this (by decide)
/-- where it ends -/
def Enq (c q g : Nat) : Nat → Nat → StV → StV → Prop
  | 0, _, v, u => u = v
  | n + 1, m, v, u => ((¬ Wai c v ∨ ¬ May c m v) ∧ u = v) ∨ (Wai c v ∧ May c m v ∧ ∃ w k v', Step c m q g v w k v' ∧ Enq c q g n (m + 1) v' u)
theorem end_lp {c q g : Nat} {v0 : StV} {i : Int32} (h1 : 1 ≤ c) : ∀ n a m v r, n + a = 20 → Ok c m q g v → Rz c r → ∃ y u r2, lp (b_X5_inTheEnd_18 v0 i) (n + 1) (nI a, v, r) = some (y, u, r2) ∧ Enq c q g n m v u ∧ Z8 u ∧ Rz c r2
  | 0, a, m, v, r, ha, ok, hr => by
    have : a = 20 := by omega
    subst this
    have e20 : (20:Int32) ≤ nI 20 := by decide
    refine ⟨nI 20, v, r, lp_out ?_, rfl, ok.z, hr⟩
    simp only [b_X5_inTheEnd_18, e20, ↓reduceIte]
  | n + 1, a, m, v, r, ha, ok, hr => by
    have n20 : ¬ (20:Int32) ≤ nI a := fun z => by have := (nI_lei (a := 20) (by omega) (by omega)).mp z; omega
    obtain ⟨kw, kw7, e0, kwi⟩ := wai_ok ok
    by_cases q0 : Wai c v
    · have k0 : ¬ kw ≤ 0 := by have := kwi.mpr q0; omega
      rcases may_ok ok with ⟨hm, e1⟩ | ⟨hm, e1⟩
      · obtain ⟨w, k, v', st⟩ := month_step ok h1 hm.1
        obtain ⟨r', zr, -, e2, -⟩ := st.2.2.2.2.2.2.2.2.2 r hr
        obtain ⟨y, u, r2, a1, a2, a3, a4⟩ := end_lp (v0 := v0) (i := i) h1 n (a + 1) (m + 1) v' r' (by omega) st.1 zr
        refine ⟨y, u, r2, ?_, Or.inr ⟨q0, hm, w, k, v', st, a2⟩, a3, a4⟩
        rw [← a1]
        refine lp_in ?_
        simp (disch := omega) only [b_X5_inTheEnd_18, n20, e0, ge0, k0, e1, bd_s, o_ne, lt_e, e2, nI_s1, ↓reduceIte]
      · refine ⟨nI a, v, r, lp_out ?_, Or.inl ⟨Or.inr hm, rfl⟩, ok.z, hr⟩
        simp (disch := omega) only [b_X5_inTheEnd_18, n20, e0, ge0, k0, e1, bd_s, ↓reduceIte]
    · have k0 : kw ≤ 0 := by
        have : ¬ 0 < kw := fun z => q0 (kwi.mp z)
        omega
      refine ⟨nI a, v, r, lp_out ?_, Or.inl ⟨Or.inl q0, rfl⟩, ok.z, hr⟩
      simp (disch := omega) only [b_X5_inTheEnd_18, n20, e0, ge0, k0, bd_s, ↓reduceIte]
theorem end_ok {c m q g i : Nat} {v : StV} (ok : Ok c m q g v) (h1 : 1 ≤ c) (hic : i < c) {t : StV} (zt : Z8 t) {r : RdV} (hr : Rz c r) : ∃ u r', f_X5_inTheEnd v t r (nI i) = some (St_purse u i, (u, r')) ∧ Enq c q g 20 m v u ∧ Z8 u ∧ Rz c r' := by
  obtain ⟨y, u, r2, a1, a2, a3, a4⟩ := end_lp (v0 := v) (i := nI i) h1 20 0 m v r rfl ok hr
  have a1 := lp_FU (by omega) a1
  have a1 : lp (b_X5_inTheEnd_18 v (nI i)) FU ((0:Int32), v, r) = _ := a1
  have c8 : c ≤ 7 := ok.cnt.2.2.2.2.2.2.2.1
  refine ⟨u, r2, ?_, a2, a3, a4⟩
  simp (disch := omega) only [f_X5_inTheEnd, req (n := c) ok.cnt.1 hic (by omega), copy_is ok.z zt, bd_s, a1, gi_ok, nI_clamp]
