/-! the pure side: bases -/
def Two {A B : Type} (o1 : Option A) (o2 : Option B) (K : A → B → Prop) : Prop := match o1, o2 with
  | some a, some b => K a b
  | _, _ => False
def One {A : Type} (o : Option A) (K : A → Prop) : Prop := match o with
  | some a => K a
  | none => False
theorem on_get {A : Type} {o : Option A} {K : A → Prop} (h : One o K) : ∃ a, o = some a ∧ K a := by
  cases o with
  | none => exact h.elim
  | some a => exact ⟨a, rfl, h⟩
theorem tw_get {A B : Type} {o1 : Option A} {o2 : Option B} {K : A → B → Prop} (h : Two o1 o2 K) : ∃ a b, o1 = some a ∧ o2 = some b ∧ K a b := by
  cases o1 with
  | none => exact h.elim
  | some a => cases o2 with
    | none => exact h.elim
    | some b => exact ⟨a, b, rfl, rfl, h⟩
theorem tw_mk {A B : Type} {o1 : Option A} {o2 : Option B} {K : A → B → Prop} {a : A} {b : B} (h1 : o1 = some a) (h2 : o2 = some b) (h : K a b) : Two o1 o2 K := by
  rw [h1, h2]; exact h
theorem on_mk {A : Type} {o : Option A} {K : A → Prop} {a : A} (h1 : o = some a) (h : K a) : One o K := by
  rw [h1]; exact h
theorem on_mono {A : Type} {o : Option A} {K K' : A → Prop} (h : One o K) (hk : ∀ a, K a → K' a) : One o K' := by
  obtain ⟨a, e, q⟩ := on_get h
  exact on_mk e (hk a q)
theorem tw_mono {A B : Type} {o1 : Option A} {o2 : Option B} {K K' : A → B → Prop} (h : Two o1 o2 K) (hk : ∀ a b, K a b → K' a b) : Two o1 o2 K' := by
  obtain ⟨a, b, e1, e2, q⟩ := tw_get h
  exact tw_mk e1 e2 (hk a b q)
theorem tw_bd {A B C D : Type} {o1 : Option A} {o2 : Option B} {K : A → B → Prop} {k1 : A → Option C} {k2 : B → Option D} {K' : C → D → Prop} (h : Two o1 o2 K) (hk : ∀ a b, K a b → Two (k1 a) (k2 b) K') : Two (bd o1 k1) (bd o2 k2) K' := by
  obtain ⟨a, b, e1, e2, q⟩ := tw_get h
  rw [e1, e2]
  exact hk a b q
theorem tw_bdl {A C D : Type} {o1 : Option A} {o2 : Option D} {K : A → Prop} {k1 : A → Option C} {K' : C → D → Prop} (h : One o1 K) (hk : ∀ a, K a → Two (k1 a) o2 K') : Two (bd o1 k1) o2 K' := by
  obtain ⟨a, e1, q⟩ := on_get h
  rw [e1]
  exact hk a q
theorem tw_bdr {B C D : Type} {o1 : Option C} {o2 : Option B} {K : B → Prop} {k2 : B → Option D} {K' : C → D → Prop} (h : One o2 K) (hk : ∀ b, K b → Two o1 (k2 b) K') : Two o1 (bd o2 k2) K' := by
  obtain ⟨b, e2, q⟩ := on_get h
  rw [e2]
  exact hk b q
theorem on_bd {A C : Type} {o1 : Option A} {K : A → Prop} {k1 : A → Option C} {K' : C → Prop} (h : One o1 K) (hk : ∀ a, K a → One (k1 a) K') : One (bd o1 k1) K' := by
  obtain ⟨a, e1, q⟩ := on_get h
  rw [e1]
  exact hk a q
theorem bd_s {A B : Type} (a : A) (k : A → Option B) : bd (some a) k = k a := (fun (_ : True) => rfl) trivial
theorem lt_e {A B : Type} (a : A) (k : A → B) : lt a k = k a := (fun (_ : True) => rfl) trivial
theorem lp_mono {S E : Type} {b : S → Option (S ⊕ E)} : ∀ (n m : Nat) (s : S) (e : E), n ≤ m → lp b n s = some e → lp b m s = some e
  | 0, _, _, _, _, h => by cases h
  | n + 1, 0, _, _, hm, _ => by omega
  | n + 1, m + 1, s, e, hm, h => by
    obtain ⟨z, h1, h2⟩ := lp_s h
    unfold lp
    rw [h1]
    cases z with
    | inl s' => exact lp_mono n m s' e (by omega) h2
    | inr e' => exact congrArg some h2
/-- a loop by itself -/
def Sto {S E : Type} (o : Option (S ⊕ E)) (J : S → Prop) (K : E → Prop) : Prop := match o with
  | some (.inl s) => J s
  | some (.inr e) => K e
  | none => False
theorem lp_one {S E : Type} {b : S → Option (S ⊕ E)} (I : Nat → S → Prop) (K : E → Prop) (step : ∀ n s, I n s → ∀ J : S → Prop, (∀ m s', m < n → I m s' → J s') → Sto (b s) J K) : ∀ {fu n : Nat} {s : S}, I n s → n < fu → One (lp b fu s) K
  | 0, n, s, _, hf => by omega
  | fu + 1, n, s, h, hf => by
    have q := step n s h (fun s' => ∃ m, m < n ∧ I m s') (fun m s' h1 h2 => ⟨m, h1, h2⟩)
    unfold lp
    cases hb : b s with
    | none => rw [hb] at q; exact q.elim
    | some z =>
      rw [hb] at q
      cases z with
      | inl s' =>
        obtain ⟨m, h1, h2⟩ := q
        exact lp_one I K step h2 (by omega)
      | inr e => exact q
/-- two loops beside each other; the first may end while the second goes on by itself -/
def Stt {S1 E1 S2 E2 : Type} (o1 : Option (S1 ⊕ E1)) (o2 : Option (S2 ⊕ E2)) (J : S1 → S2 → Prop) (K : E1 → E2 → Prop) : Prop := match o1, o2 with
  | some (.inl s), some (.inl t) => J s t
  | some (.inr e), some (.inr f) => K e f
  | _, _ => False
theorem lp_two {S1 E1 S2 E2 : Type} {b1 : S1 → Option (S1 ⊕ E1)} {b2 : S2 → Option (S2 ⊕ E2)} (I : Nat → S1 → S2 → Prop) (K : E1 → E2 → Prop) (step : ∀ n s t, I n s t → ∀ J : S1 → S2 → Prop, (∀ m s' t', m < n → I m s' t' → J s' t') → Stt (b1 s) (b2 t) J K) : ∀ {fu n : Nat} {s : S1} {t : S2}, I n s t → n < fu → Two (lp b1 fu s) (lp b2 fu t) K
  | 0, n, s, t, _, hf => by omega
  | fu + 1, n, s, t, h, hf => by
    have q := step n s t h (fun s' t' => ∃ m, m < n ∧ I m s' t') (fun m s' t' h1 h2 => ⟨m, h1, h2⟩)
    unfold lp
    cases hb : b1 s with
    | none => rw [hb] at q; exact q.elim
    | some z =>
      rw [hb] at q
      cases z with
      | inl s' =>
        cases hc : b2 t with
        | none => rw [hc] at q; exact q.elim
        | some y =>
          rw [hc] at q
          cases y with
          | inl t' =>
            obtain ⟨m, h1, h2⟩ := q
            exact lp_two I K step h2 (by omega)
          | inr f => exact q.elim
      | inr e =>
        cases hc : b2 t with
        | none => rw [hc] at q; exact q.elim
        | some y =>
          rw [hc] at q
          cases y with
          | inl t' => exact q.elim
          | inr f => exact q
/-- the same, where the second has more turns to take when the first is through -/
def Stu {S1 E1 S2 E2 : Type} (o1 : Option (S1 ⊕ E1)) (o2 : Option (S2 ⊕ E2)) (J : S1 → S2 → Prop) (X : E1 → Prop) : Prop := match o1 with
  | some (.inl s) => match o2 with
    | some (.inl t) => J s t
    | _ => False
  | some (.inr e) => X e
  | none => False
theorem lp_tail {S1 E1 S2 E2 : Type} {b1 : S1 → Option (S1 ⊕ E1)} {b2 : S2 → Option (S2 ⊕ E2)} (I : Nat → S1 → S2 → Prop) (k : Nat) (K : E1 → E2 → Prop) (step : ∀ n s t, I n s t → ∀ (J : S1 → S2 → Prop) (X : E1 → Prop), (∀ m s' t', m < n → I m s' t' → J s' t') → (∀ e, One (lp b2 k t) (K e) → X e) → Stu (b1 s) (b2 t) J X) : ∀ {fu n : Nat} {s : S1} {t : S2}, I n s t → n + k < fu → Two (lp b1 fu s) (lp b2 fu t) K
  | 0, n, s, t, _, hf => by omega
  | fu + 1, n, s, t, h, hf => by
    have q := step n s t h (fun s' t' => ∃ m, m < n ∧ I m s' t') (fun e => One (lp b2 k t) (K e)) (fun m s' t' h1 h2 => ⟨m, h1, h2⟩) (fun e h => h)
    cases hb : b1 s with
    | none => rw [hb] at q; exact q.elim
    | some z =>
      rw [hb] at q
      cases z with
      | inl s' =>
        cases hc : b2 t with
        | none => rw [hc] at q; exact q.elim
        | some y =>
          rw [hc] at q
          cases y with
          | inl t' =>
            obtain ⟨m, h3, h4⟩ := q
            have q := lp_tail I k K step h4 (show m + k < fu by omega)
            have e1 : lp b1 (fu + 1) s = lp b1 fu s' := by rw [lp, hb]
            have e2 : lp b2 (fu + 1) t = lp b2 fu t' := by rw [lp, hc]
            rw [e1, e2]
            exact q
          | inr f => exact q.elim
      | inr e =>
        obtain ⟨f, e2, q⟩ := on_get q
        exact tw_mk (by rw [lp, hb]) (lp_mono k (fu + 1) t f (by omega) e2) q
theorem FU_gt {n : Nat} (h : n < 1000000) : n < FU := h
theorem lp_get {S E : Type} {b : S → Option (S ⊕ E)} {s : S} {K : E → Prop} {n : Nat} (hn : n < 1000000) (h : ∀ fu, n < fu → One (lp b fu s) K) : ∃ e, lp b FU s = some e ∧ K e := on_get (h FU hn)
theorem lp_get2 {S E S2 E2 : Type} {b : S → Option (S ⊕ E)} {b2 : S2 → Option (S2 ⊕ E2)} {s : S} {s2 : S2} {K : E → E2 → Prop} {n : Nat} (hn : n < 1000000) (h : ∀ fu, n < fu → Two (lp b fu s) (lp b2 fu s2) K) : ∃ e f, lp b FU s = some e ∧ lp b2 FU s2 = some f ∧ K e f := tw_get (h FU hn)
/-! numbers as places -/
theorem gi_ok {β : Type} {i n : Nat} {k : Option β} (h : i < n) (hn : n < 2147483648) : gi (nI i) n k = k := if_neg (nI_in h (by simpa using hn))
theorem q_add (a b : Nat) : nI a + nI b = nI (a + b) := (Int32.ofNat_add a b).symm
theorem nI_s1 (a : Nat) : nI a + (1:Int32) = nI (a + 1) := (nI_succ a).symm
theorem nI_inj {a b : Nat} (ha : a < 2147483648) (hb : b < 2147483648) : nI a = nI b ↔ a = b := by
  constructor
  · intro h
    have h1 := congrArg Int32.toNatClampNeg h
    rwa [nI_clamp (by simpa using ha), nI_clamp (by simpa using hb)] at h1
  · intro h; rw [h]
theorem nI_lei {a b : Nat} (ha : a < 2147483648) (hb : b < 2147483648) : nI a ≤ nI b ↔ a ≤ b := by
  rw [Int32.le_iff_toInt_le, nI_toInt (by simpa using ha), nI_toInt (by simpa using hb)]; omega
theorem nI_lti {a b : Nat} (ha : a < 2147483648) (hb : b < 2147483648) : nI a < nI b ↔ a < b := by
  rw [Int32.lt_iff_toInt_lt, nI_toInt (by simpa using ha), nI_toInt (by simpa using hb)]; omega
theorem nI_neg {a : Nat} (ha : a < 2147483648) : nI a = (-99999:Int32) ↔ False := by
  constructor
  · intro h
    have h1 := congrArg Int32.toInt h
    rw [nI_toInt (by simpa using ha)] at h1
    have h2 : (-99999 : Int32).toInt = -99999 := by decide
    omega
  · intro h; exact h.elim
theorem nI_nn {a : Nat} (ha : a < 2147483648) : nI a < (0:Int32) ↔ False := ⟨fun h => nI_pos (by simpa using ha) h, fun h => h.elim⟩
theorem upd_same (f : Nat → Int32) (i : Nat) (x : Int32) : upd f i x i = x := by unfold upd; rw [if_pos rfl]
theorem upd_ne {f : Nat → Int32} {i j : Nat} {x : Int32} (h : j ≠ i) : upd f i x j = f j := by unfold upd; rw [if_neg h]
theorem nar0 : vp_nar .boolean (0:Int32) = 0 := (fun (_ : True) => rfl) trivial
theorem nar1 : vp_nar .boolean (1:Int32) = 1 := (fun (_ : True) => rfl) trivial
theorem gz2 {β : Type} {k : Option β} : gz (2:Int32) k = k := if_neg (by decide)
theorem gz8 {β : Type} {k : Option β} : gz (8:Int32) k = k := if_neg (by decide)
theorem gz40 {β : Type} {k : Option β} : gz (40:Int32) k = k := if_neg (by decide)
theorem o_ne : ((1:Int32) = 0) = False := by simp
theorem z_ne : ((0:Int32) = 1) = False := by simp
theorem q_mul (a b : Nat) : nI a * nI b = nI (a * b) := (Int32.ofNat_mul a b).symm
theorem mul8 (a : Nat) : nI a * (8:Int32) = nI (a * 8) := q_mul a 8
theorem mul8r (a : Nat) : (8:Int32) * nI a = nI (8 * a) := q_mul 8 a
theorem c0 : (0:Int32).toNatClampNeg = 0 := (fun (_ : True) => rfl) trivial
theorem g0_157 {β : Type} {k : Option β} : gi (0:Int32) 157 k = k := if_neg (by decide)
theorem c1 : (1:Int32).toNatClampNeg = 1 := (fun (_ : True) => rfl) trivial
theorem g1_157 {β : Type} {k : Option β} : gi (1:Int32) 157 k = k := if_neg (by decide)
theorem c2 : (2:Int32).toNatClampNeg = 2 := (fun (_ : True) => rfl) trivial
theorem g2_157 {β : Type} {k : Option β} : gi (2:Int32) 157 k = k := if_neg (by decide)
theorem c3 : (3:Int32).toNatClampNeg = 3 := (fun (_ : True) => rfl) trivial
theorem g3_157 {β : Type} {k : Option β} : gi (3:Int32) 157 k = k := if_neg (by decide)
theorem c4 : (4:Int32).toNatClampNeg = 4 := (fun (_ : True) => rfl) trivial
theorem g4_157 {β : Type} {k : Option β} : gi (4:Int32) 157 k = k := if_neg (by decide)
theorem g0_1 {β : Type} {k : Option β} : gi (0:Int32) 1 k = k := if_neg (by decide)
theorem a5 (i : Nat) : (5:Int32) + nI i = nI (5 + i) := q_add 5 i
theorem a13 (i : Nat) : (13:Int32) + nI i = nI (13 + i) := q_add 13 i
theorem a21 (i : Nat) : (21:Int32) + nI i = nI (21 + i) := q_add 21 i
theorem a29 (i : Nat) : (29:Int32) + nI i = nI (29 + i) := q_add 29 i
theorem a37 (i : Nat) : (37:Int32) + nI i = nI (37 + i) := q_add 37 i
theorem a45 (i : Nat) : (45:Int32) + nI i = nI (45 + i) := q_add 45 i
theorem a53 (i : Nat) : (53:Int32) + nI i = nI (53 + i) := q_add 53 i
theorem a61 (i : Nat) : (61:Int32) + nI i = nI (61 + i) := q_add 61 i
theorem a69 (i : Nat) : (69:Int32) + nI i = nI (69 + i) := q_add 69 i
theorem a77 (i : Nat) : (77:Int32) + nI i = nI (77 + i) := q_add 77 i
theorem a85 (i : Nat) : (85:Int32) + nI i = nI (85 + i) := q_add 85 i
theorem a93 (i : Nat) : (93:Int32) + nI i = nI (93 + i) := q_add 93 i
theorem le2 {i : Nat} (h : i < 2147483648) : (2:Int32) ≤ nI i ↔ 2 ≤ i := nI_lei (a := 2) (by decide) h
theorem le3 {i : Nat} (h : i < 2147483648) : (3:Int32) ≤ nI i ↔ 3 ≤ i := nI_lei (a := 3) (by decide) h
theorem le8 {i : Nat} (h : i < 2147483648) : (8:Int32) ≤ nI i ↔ 8 ≤ i := nI_lei (a := 8) (by decide) h
theorem le64 {i : Nat} (h : i < 2147483648) : (64:Int32) ≤ nI i ↔ 64 ≤ i := nI_lei (a := 64) (by decide) h
theorem le100 {i : Nat} (h : i < 2147483648) : (100:Int32) ≤ nI i ↔ 100 ≤ i := nI_lei (a := 100) (by decide) h
theorem le157 {i : Nat} (h : i < 2147483648) : (157:Int32) ≤ nI i ↔ 157 ≤ i := nI_lei (a := 157) (by decide) h
theorem le2041 {i : Nat} (h : i < 2147483648) : (2041:Int32) ≤ nI i ↔ 2041 ≤ i := nI_lei (a := 2041) (by decide) h
theorem le14 {i : Nat} (h : i < 2147483648) : (14:Int32) ≤ nI i ↔ 14 ≤ i := nI_lei (a := 14) (by decide) h
theorem le1 {i : Nat} (h : i < 2147483648) : (1:Int32) ≤ nI i ↔ 1 ≤ i := nI_lei (a := 1) (by decide) h
theorem le0 {i : Nat} (h : i < 2147483648) : (0:Int32) ≤ nI i ↔ 0 ≤ i := nI_lei (a := 0) (by decide) h
theorem le99 {i : Nat} (h : i < 2147483648) : (99:Int32) ≤ nI i ↔ 99 ≤ i := nI_lei (a := 99) (by decide) h
theorem le126 {i : Nat} (h : i < 2147483648) : (126:Int32) ≤ nI i ↔ 126 ≤ i := nI_lei (a := 126) (by decide) h
theorem eq0 {i : Nat} (h : i < 2147483648) : nI i = (0:Int32) ↔ i = 0 := nI_inj (b := 0) h (by decide)
theorem eq8 {i : Nat} (h : i < 2147483648) : nI i = (8:Int32) ↔ i = 8 := nI_inj (b := 8) h (by decide)
theorem eq14 {i : Nat} (h : i < 2147483648) : nI i = (14:Int32) ↔ i = 14 := nI_inj (b := 14) h (by decide)
theorem eq1 {i : Nat} (h : i < 2147483648) : nI i = (1:Int32) ↔ i = 1 := nI_inj (b := 1) h (by decide)
theorem eq99 {i : Nat} (h : i < 2147483648) : nI i = (99:Int32) ↔ i = 99 := nI_inj (b := 99) h (by decide)
theorem eq100 {i : Nat} (h : i < 2147483648) : nI i = (100:Int32) ↔ i = 100 := nI_inj (b := 100) h (by decide)
theorem ge0 {i : Nat} (h : i < 2147483648) : nI i ≤ (0:Int32) ↔ i ≤ 0 := nI_lei (b := 0) h (by decide)
theorem lt100 {i : Nat} (h : i < 2147483648) : nI i < (100:Int32) ↔ i < 100 := nI_lti (b := 100) h (by decide)
theorem lt99 {i : Nat} (h : i < 2147483648) : nI i < (99:Int32) ↔ i < 99 := nI_lti (b := 99) h (by decide)
theorem lt0 {i : Nat} (h : i < 2147483648) : nI i < (0:Int32) ↔ i < 0 := nI_lti (b := 0) h (by decide)
theorem eq2 {i : Nat} (h : i < 2147483648) : nI i = (2:Int32) ↔ i = 2 := nI_inj (b := 2) h (by decide)
theorem eq3 {i : Nat} (h : i < 2147483648) : nI i = (3:Int32) ↔ i = 3 := nI_inj (b := 3) h (by decide)
theorem eq4 {i : Nat} (h : i < 2147483648) : nI i = (4:Int32) ↔ i = 4 := nI_inj (b := 4) h (by decide)
theorem eq5 {i : Nat} (h : i < 2147483648) : nI i = (5:Int32) ↔ i = 5 := nI_inj (b := 5) h (by decide)
theorem eq6 {i : Nat} (h : i < 2147483648) : nI i = (6:Int32) ↔ i = 6 := nI_inj (b := 6) h (by decide)
theorem eq7 {i : Nat} (h : i < 2147483648) : nI i = (7:Int32) ↔ i = 7 := nI_inj (b := 7) h (by decide)
theorem eq9 {i : Nat} (h : i < 2147483648) : nI i = (9:Int32) ↔ i = 9 := nI_inj (b := 9) h (by decide)
theorem eq10 {i : Nat} (h : i < 2147483648) : nI i = (10:Int32) ↔ i = 10 := nI_inj (b := 10) h (by decide)
theorem nat_of {x : Int32} (h : ¬ x < 0) : ∃ k : Nat, k < 2147483648 ∧ x = nI k := by
  refine ⟨x.toNatClampNeg, ?_, (Int32.ofNat_toNatClampNeg x (Int32.not_lt.mp h)).symm⟩
  have := Int32.toNatClampNeg_lt x
  simpa using this
theorem rng (x : Int32) (hi : Nat) (hh : hi < 2147483648) : x < 0 ∨ (¬ x < 0 ∧ nI hi < x) ∨ ∃ k, k ≤ hi ∧ x = nI k := by
  by_cases h : x < 0
  · exact Or.inl h
  · obtain ⟨k, h1, rfl⟩ := nat_of h
    by_cases h2 : k ≤ hi
    · exact Or.inr (Or.inr ⟨k, h2, rfl⟩)
    · exact Or.inr (Or.inl ⟨h, (nI_lti hh h1).mpr (by omega)⟩)
theorem zle : ((0:Int32) ≤ 0) = True := by simp
theorem ole : ((1:Int32) ≤ 0) = False := by simp
theorem twle : ((2:Int32) ≤ 0) = False := by simp
theorem thle : ((3:Int32) ≤ 0) = False := by simp
