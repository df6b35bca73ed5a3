/-! the pure side: two programs beside each other -/
def Two {A B : Type} (o1 : Option A) (o2 : Option B) (K : A → B → Prop) : Prop := match o1, o2 with
  | some a, some b => K a b
  | _, _ => False
def One {A : Type} (o : Option A) (K : A → Prop) : Prop := match o with
  | some a => K a
  | none => False
theorem on_get {A : Type} {o : Option A} {K : A → Prop} (h : One o K) : ∃ a, o = some a ∧ K a := by
  cases o with
  | none => exact h.elim
  | some a => exact ⟨a, rfl, h⟩
theorem tw_get {A B : Type} {o1 : Option A} {o2 : Option B} {K : A → B → Prop} (h : Two o1 o2 K) : ∃ a b, o1 = some a ∧ o2 = some b ∧ K a b := by
  cases o1 with
  | none => exact h.elim
  | some a => cases o2 with
    | none => exact h.elim
    | some b => exact ⟨a, b, rfl, rfl, h⟩
theorem tw_mk {A B : Type} {o1 : Option A} {o2 : Option B} {K : A → B → Prop} {a : A} {b : B} (h1 : o1 = some a) (h2 : o2 = some b) (h : K a b) : Two o1 o2 K := by
  rw [h1, h2]; exact h
theorem on_mk {A : Type} {o : Option A} {K : A → Prop} {a : A} (h1 : o = some a) (h : K a) : One o K := by
  rw [h1]; exact h
theorem on_mono {A : Type} {o : Option A} {K K' : A → Prop} (h : One o K) (hk : ∀ a, K a → K' a) : One o K' := by
  obtain ⟨a, e, q⟩ := on_get h
  exact on_mk e (hk a q)
theorem tw_mono {A B : Type} {o1 : Option A} {o2 : Option B} {K K' : A → B → Prop} (h : Two o1 o2 K) (hk : ∀ a b, K a b → K' a b) : Two o1 o2 K' := by
  obtain ⟨a, b, e1, e2, q⟩ := tw_get h
  exact tw_mk e1 e2 (hk a b q)
theorem tw_bd {A B C D : Type} {o1 : Option A} {o2 : Option B} {K : A → B → Prop} {k1 : A → Option C} {k2 : B → Option D} {K' : C → D → Prop} (h : Two o1 o2 K) (hk : ∀ a b, K a b → Two (k1 a) (k2 b) K') : Two (bd o1 k1) (bd o2 k2) K' := by
  obtain ⟨a, b, e1, e2, q⟩ := tw_get h
  rw [e1, e2]
  exact hk a b q
theorem tw_bdl {A C D : Type} {o1 : Option A} {o2 : Option D} {K : A → Prop} {k1 : A → Option C} {K' : C → D → Prop} (h : One o1 K) (hk : ∀ a, K a → Two (k1 a) o2 K') : Two (bd o1 k1) o2 K' := by
  obtain ⟨a, e1, q⟩ := on_get h
  rw [e1]
  exact hk a q
theorem tw_bdr {B C D : Type} {o1 : Option C} {o2 : Option B} {K : B → Prop} {k2 : B → Option D} {K' : C → D → Prop} (h : One o2 K) (hk : ∀ b, K b → Two o1 (k2 b) K') : Two o1 (bd o2 k2) K' := by
  obtain ⟨b, e2, q⟩ := on_get h
  rw [e2]
  exact hk b q
theorem on_bd {A C : Type} {o1 : Option A} {K : A → Prop} {k1 : A → Option C} {K' : C → Prop} (h : One o1 K) (hk : ∀ a, K a → One (k1 a) K') : One (bd o1 k1) K' := by
  obtain ⟨a, e1, q⟩ := on_get h
  rw [e1]
  exact hk a q
theorem bd_s {A B : Type} (a : A) (k : A → Option B) : bd (some a) k = k a := (fun (_ : True) => rfl) trivial
theorem lt_e {A B : Type} (a : A) (k : A → B) : lt a k = k a := (fun (_ : True) => rfl) trivial
theorem lp_mono {S E : Type} {b : S → Option (S ⊕ E)} : ∀ (n m : Nat) (s : S) (e : E), n ≤ m → lp b n s = some e → lp b m s = some e
  | 0, _, _, _, _, h => by cases h
  | n + 1, 0, _, _, hm, _ => by omega
  | n + 1, m + 1, s, e, hm, h => by
    obtain ⟨z, h1, h2⟩ := lp_s h
    unfold lp
    rw [h1]
    cases z with
    | inl s' => exact lp_mono n m s' e (by omega) h2
    | inr e' => exact congrArg some h2
/-- a loop by itself -/
def Sto {S E : Type} (o : Option (S ⊕ E)) (J : S → Prop) (K : E → Prop) : Prop := match o with
  | some (.inl s) => J s
  | some (.inr e) => K e
  | none => False
theorem lp_one {S E : Type} {b : S → Option (S ⊕ E)} (I : Nat → S → Prop) (K : E → Prop) (step : ∀ n s, I n s → ∀ J : S → Prop, (∀ m s', m < n → I m s' → J s') → Sto (b s) J K) : ∀ {fu n : Nat} {s : S}, I n s → n < fu → One (lp b fu s) K
  | 0, n, s, _, hf => by omega
  | fu + 1, n, s, h, hf => by
    have q := step n s h (fun s' => ∃ m, m < n ∧ I m s') (fun m s' h1 h2 => ⟨m, h1, h2⟩)
    unfold lp
    cases hb : b s with
    | none => rw [hb] at q; exact q.elim
    | some z =>
      rw [hb] at q
      cases z with
      | inl s' =>
        obtain ⟨m, h1, h2⟩ := q
        exact lp_one I K step h2 (by omega)
      | inr e => exact q
/-- two loops beside each other; the first may end while the second goes on by itself -/
def Stt {S1 E1 S2 E2 : Type} (o1 : Option (S1 ⊕ E1)) (o2 : Option (S2 ⊕ E2)) (J : S1 → S2 → Prop) (K : E1 → E2 → Prop) : Prop := match o1, o2 with
  | some (.inl s), some (.inl t) => J s t
  | some (.inr e), some (.inr f) => K e f
  | _, _ => False
theorem lp_two {S1 E1 S2 E2 : Type} {b1 : S1 → Option (S1 ⊕ E1)} {b2 : S2 → Option (S2 ⊕ E2)} (I : Nat → S1 → S2 → Prop) (K : E1 → E2 → Prop) (step : ∀ n s t, I n s t → ∀ J : S1 → S2 → Prop, (∀ m s' t', m < n → I m s' t' → J s' t') → Stt (b1 s) (b2 t) J K) : ∀ {fu n : Nat} {s : S1} {t : S2}, I n s t → n < fu → Two (lp b1 fu s) (lp b2 fu t) K
  | 0, n, s, t, _, hf => by omega
  | fu + 1, n, s, t, h, hf => by
    have q := step n s t h (fun s' t' => ∃ m, m < n ∧ I m s' t') (fun m s' t' h1 h2 => ⟨m, h1, h2⟩)
    unfold lp
    cases hb : b1 s with
    | none => rw [hb] at q; exact q.elim
    | some z =>
      rw [hb] at q
      cases z with
      | inl s' =>
        cases hc : b2 t with
        | none => rw [hc] at q; exact q.elim
        | some y =>
          rw [hc] at q
          cases y with
          | inl t' =>
            obtain ⟨m, h1, h2⟩ := q
            exact lp_two I K step h2 (by omega)
          | inr f => exact q.elim
      | inr e =>
        cases hc : b2 t with
        | none => rw [hc] at q; exact q.elim
        | some y =>
          rw [hc] at q
          cases y with
          | inl t' => exact q.elim
          | inr f => exact q
/-- the same, where the second has more turns to take when the first is through -/
def Stu {S1 E1 S2 E2 : Type} (o1 : Option (S1 ⊕ E1)) (o2 : Option (S2 ⊕ E2)) (J : S1 → S2 → Prop) (X : E1 → Prop) : Prop := match o1 with
  | some (.inl s) => match o2 with
    | some (.inl t) => J s t
    | _ => False
  | some (.inr e) => X e
  | none => False
theorem lp_tail {S1 E1 S2 E2 : Type} {b1 : S1 → Option (S1 ⊕ E1)} {b2 : S2 → Option (S2 ⊕ E2)} (I : Nat → S1 → S2 → Prop) (k : Nat) (K : E1 → E2 → Prop) (step : ∀ n s t, I n s t → ∀ (J : S1 → S2 → Prop) (X : E1 → Prop), (∀ m s' t', m < n → I m s' t' → J s' t') → (∀ e, One (lp b2 k t) (K e) → X e) → Stu (b1 s) (b2 t) J X) : ∀ {fu n : Nat} {s : S1} {t : S2}, I n s t → n + k < fu → Two (lp b1 fu s) (lp b2 fu t) K
  | 0, n, s, t, _, hf => by omega
  | fu + 1, n, s, t, h, hf => by
    have q := step n s t h (fun s' t' => ∃ m, m < n ∧ I m s' t') (fun e => One (lp b2 k t) (K e)) (fun m s' t' h1 h2 => ⟨m, h1, h2⟩) (fun e h => h)
    cases hb : b1 s with
    | none => rw [hb] at q; exact q.elim
    | some z =>
      rw [hb] at q
      cases z with
      | inl s' =>
        cases hc : b2 t with
        | none => rw [hc] at q; exact q.elim
        | some y =>
          rw [hc] at q
          cases y with
          | inl t' =>
            obtain ⟨m, h3, h4⟩ := q
            have q := lp_tail I k K step h4 (show m + k < fu by omega)
            have e1 : lp b1 (fu + 1) s = lp b1 fu s' := by rw [lp, hb]
            have e2 : lp b2 (fu + 1) t = lp b2 fu t' := by rw [lp, hc]
            rw [e1, e2]
            exact q
          | inr f => exact q.elim
      | inr e =>
        obtain ⟨f, e2, q⟩ := on_get q
        exact tw_mk (by rw [lp, hb]) (lp_mono k (fu + 1) t f (by omega) e2) q
theorem FU_gt {n : Nat} (h : n < 1000000) : n < FU := h
theorem lp_get {S E : Type} {b : S → Option (S ⊕ E)} {s : S} {K : E → Prop} {n : Nat} (hn : n < 1000000) (h : ∀ fu, n < fu → One (lp b fu s) K) : ∃ e, lp b FU s = some e ∧ K e := on_get (h FU hn)
theorem lp_get2 {S E S2 E2 : Type} {b : S → Option (S ⊕ E)} {b2 : S2 → Option (S2 ⊕ E2)} {s : S} {s2 : S2} {K : E → E2 → Prop} {n : Nat} (hn : n < 1000000) (h : ∀ fu, n < fu → Two (lp b fu s) (lp b2 fu s2) K) : ∃ e f, lp b FU s = some e ∧ lp b2 FU s2 = some f ∧ K e f := tw_get (h FU hn)
/-! numbers as places -/
theorem gi_ok {β : Type} {i n : Nat} {k : Option β} (h : i < n) (hn : n < 2147483648) : gi (nI i) n k = k := if_neg (nI_in h (by simpa using hn))
theorem q_add (a b : Nat) : nI a + nI b = nI (a + b) := (Int32.ofNat_add a b).symm
theorem nI_s1 (a : Nat) : nI a + (1:Int32) = nI (a + 1) := (nI_succ a).symm
theorem nI_inj {a b : Nat} (ha : a < 2147483648) (hb : b < 2147483648) : nI a = nI b ↔ a = b := by
  constructor
  · intro h
    have h1 := congrArg Int32.toNatClampNeg h
    rwa [nI_clamp (by simpa using ha), nI_clamp (by simpa using hb)] at h1
  · intro h; rw [h]
theorem nI_lei {a b : Nat} (ha : a < 2147483648) (hb : b < 2147483648) : nI a ≤ nI b ↔ a ≤ b := by
  rw [Int32.le_iff_toInt_le, nI_toInt (by simpa using ha), nI_toInt (by simpa using hb)]; omega
theorem nI_lti {a b : Nat} (ha : a < 2147483648) (hb : b < 2147483648) : nI a < nI b ↔ a < b := by
  rw [Int32.lt_iff_toInt_lt, nI_toInt (by simpa using ha), nI_toInt (by simpa using hb)]; omega
theorem nI_neg {a : Nat} (ha : a < 2147483648) : nI a = (-99999:Int32) ↔ False := by
  constructor
  · intro h
    have h1 := congrArg Int32.toInt h
    rw [nI_toInt (by simpa using ha)] at h1
    have h2 : (-99999 : Int32).toInt = -99999 := by decide
    omega
  · intro h; exact h.elim
theorem nI_nn {a : Nat} (ha : a < 2147483648) : nI a < (0:Int32) ↔ False := ⟨fun h => nI_pos (by simpa using ha) h, fun h => h.elim⟩
theorem upd_same (f : Nat → Int32) (i : Nat) (x : Int32) : upd f i x i = x := by unfold upd; rw [if_pos rfl]
theorem upd_ne {f : Nat → Int32} {i j : Nat} {x : Int32} (h : j ≠ i) : upd f i x j = f j := by unfold upd; rw [if_neg h]
theorem nar0 : vp_nar .boolean (0:Int32) = 0 := (fun (_ : True) => rfl) trivial
theorem nar1 : vp_nar .boolean (1:Int32) = 1 := (fun (_ : True) => rfl) trivial
theorem gz2 {β : Type} {k : Option β} : gz (2:Int32) k = k := if_neg (by decide)
theorem gz8 {β : Type} {k : Option β} : gz (8:Int32) k = k := if_neg (by decide)
theorem gz40 {β : Type} {k : Option β} : gz (40:Int32) k = k := if_neg (by decide)
theorem o_ne : ((1:Int32) = 0) = False := by simp
theorem z_ne : ((0:Int32) = 1) = False := by simp
theorem q_mul (a b : Nat) : nI a * nI b = nI (a * b) := (Int32.ofNat_mul a b).symm
theorem mul8 (a : Nat) : nI a * (8:Int32) = nI (a * 8) := q_mul a 8
theorem mul8r (a : Nat) : (8:Int32) * nI a = nI (8 * a) := q_mul 8 a
theorem c0 : (0:Int32).toNatClampNeg = 0 := (fun (_ : True) => rfl) trivial
theorem g0_157 {β : Type} {k : Option β} : gi (0:Int32) 157 k = k := if_neg (by decide)
theorem c1 : (1:Int32).toNatClampNeg = 1 := (fun (_ : True) => rfl) trivial
theorem g1_157 {β : Type} {k : Option β} : gi (1:Int32) 157 k = k := if_neg (by decide)
theorem c2 : (2:Int32).toNatClampNeg = 2 := (fun (_ : True) => rfl) trivial
theorem g2_157 {β : Type} {k : Option β} : gi (2:Int32) 157 k = k := if_neg (by decide)
theorem c3 : (3:Int32).toNatClampNeg = 3 := (fun (_ : True) => rfl) trivial
theorem g3_157 {β : Type} {k : Option β} : gi (3:Int32) 157 k = k := if_neg (by decide)
theorem c4 : (4:Int32).toNatClampNeg = 4 := (fun (_ : True) => rfl) trivial
theorem g4_157 {β : Type} {k : Option β} : gi (4:Int32) 157 k = k := if_neg (by decide)
theorem g0_1 {β : Type} {k : Option β} : gi (0:Int32) 1 k = k := if_neg (by decide)
theorem a5 (i : Nat) : (5:Int32) + nI i = nI (5 + i) := q_add 5 i
theorem a13 (i : Nat) : (13:Int32) + nI i = nI (13 + i) := q_add 13 i
theorem a21 (i : Nat) : (21:Int32) + nI i = nI (21 + i) := q_add 21 i
theorem a29 (i : Nat) : (29:Int32) + nI i = nI (29 + i) := q_add 29 i
theorem a37 (i : Nat) : (37:Int32) + nI i = nI (37 + i) := q_add 37 i
theorem a45 (i : Nat) : (45:Int32) + nI i = nI (45 + i) := q_add 45 i
theorem a53 (i : Nat) : (53:Int32) + nI i = nI (53 + i) := q_add 53 i
theorem a61 (i : Nat) : (61:Int32) + nI i = nI (61 + i) := q_add 61 i
theorem a69 (i : Nat) : (69:Int32) + nI i = nI (69 + i) := q_add 69 i
theorem a77 (i : Nat) : (77:Int32) + nI i = nI (77 + i) := q_add 77 i
theorem a85 (i : Nat) : (85:Int32) + nI i = nI (85 + i) := q_add 85 i
theorem a93 (i : Nat) : (93:Int32) + nI i = nI (93 + i) := q_add 93 i
theorem le2 {i : Nat} (h : i < 2147483648) : (2:Int32) ≤ nI i ↔ 2 ≤ i := nI_lei (a := 2) (by decide) h
theorem le3 {i : Nat} (h : i < 2147483648) : (3:Int32) ≤ nI i ↔ 3 ≤ i := nI_lei (a := 3) (by decide) h
theorem le8 {i : Nat} (h : i < 2147483648) : (8:Int32) ≤ nI i ↔ 8 ≤ i := nI_lei (a := 8) (by decide) h
theorem le64 {i : Nat} (h : i < 2147483648) : (64:Int32) ≤ nI i ↔ 64 ≤ i := nI_lei (a := 64) (by decide) h
theorem le100 {i : Nat} (h : i < 2147483648) : (100:Int32) ≤ nI i ↔ 100 ≤ i := nI_lei (a := 100) (by decide) h
theorem le157 {i : Nat} (h : i < 2147483648) : (157:Int32) ≤ nI i ↔ 157 ≤ i := nI_lei (a := 157) (by decide) h
theorem le2041 {i : Nat} (h : i < 2147483648) : (2041:Int32) ≤ nI i ↔ 2041 ≤ i := nI_lei (a := 2041) (by decide) h
theorem le14 {i : Nat} (h : i < 2147483648) : (14:Int32) ≤ nI i ↔ 14 ≤ i := nI_lei (a := 14) (by decide) h
theorem le1 {i : Nat} (h : i < 2147483648) : (1:Int32) ≤ nI i ↔ 1 ≤ i := nI_lei (a := 1) (by decide) h
theorem le0 {i : Nat} (h : i < 2147483648) : (0:Int32) ≤ nI i ↔ 0 ≤ i := nI_lei (a := 0) (by decide) h
theorem le99 {i : Nat} (h : i < 2147483648) : (99:Int32) ≤ nI i ↔ 99 ≤ i := nI_lei (a := 99) (by decide) h
theorem le126 {i : Nat} (h : i < 2147483648) : (126:Int32) ≤ nI i ↔ 126 ≤ i := nI_lei (a := 126) (by decide) h
theorem eq0 {i : Nat} (h : i < 2147483648) : nI i = (0:Int32) ↔ i = 0 := nI_inj (b := 0) h (by decide)
theorem eq8 {i : Nat} (h : i < 2147483648) : nI i = (8:Int32) ↔ i = 8 := nI_inj (b := 8) h (by decide)
theorem eq14 {i : Nat} (h : i < 2147483648) : nI i = (14:Int32) ↔ i = 14 := nI_inj (b := 14) h (by decide)
theorem eq1 {i : Nat} (h : i < 2147483648) : nI i = (1:Int32) ↔ i = 1 := nI_inj (b := 1) h (by decide)
theorem eq99 {i : Nat} (h : i < 2147483648) : nI i = (99:Int32) ↔ i = 99 := nI_inj (b := 99) h (by decide)
theorem eq100 {i : Nat} (h : i < 2147483648) : nI i = (100:Int32) ↔ i = 100 := nI_inj (b := 100) h (by decide)
theorem ge0 {i : Nat} (h : i < 2147483648) : nI i ≤ (0:Int32) ↔ i ≤ 0 := nI_lei (b := 0) h (by decide)
theorem lt100 {i : Nat} (h : i < 2147483648) : nI i < (100:Int32) ↔ i < 100 := nI_lti (b := 100) h (by decide)
theorem lt99 {i : Nat} (h : i < 2147483648) : nI i < (99:Int32) ↔ i < 99 := nI_lti (b := 99) h (by decide)
theorem lt0 {i : Nat} (h : i < 2147483648) : nI i < (0:Int32) ↔ i < 0 := nI_lti (b := 0) h (by decide)
theorem eq2 {i : Nat} (h : i < 2147483648) : nI i = (2:Int32) ↔ i = 2 := nI_inj (b := 2) h (by decide)
theorem eq3 {i : Nat} (h : i < 2147483648) : nI i = (3:Int32) ↔ i = 3 := nI_inj (b := 3) h (by decide)
theorem eq4 {i : Nat} (h : i < 2147483648) : nI i = (4:Int32) ↔ i = 4 := nI_inj (b := 4) h (by decide)
theorem eq5 {i : Nat} (h : i < 2147483648) : nI i = (5:Int32) ↔ i = 5 := nI_inj (b := 5) h (by decide)
theorem eq6 {i : Nat} (h : i < 2147483648) : nI i = (6:Int32) ↔ i = 6 := nI_inj (b := 6) h (by decide)
theorem eq7 {i : Nat} (h : i < 2147483648) : nI i = (7:Int32) ↔ i = 7 := nI_inj (b := 7) h (by decide)
theorem eq9 {i : Nat} (h : i < 2147483648) : nI i = (9:Int32) ↔ i = 9 := nI_inj (b := 9) h (by decide)
theorem eq10 {i : Nat} (h : i < 2147483648) : nI i = (10:Int32) ↔ i = 10 := nI_inj (b := 10) h (by decide)
theorem nat_of {x : Int32} (h : ¬ x < 0) : ∃ k : Nat, k < 2147483648 ∧ x = nI k := by
  refine ⟨x.toNatClampNeg, ?_, (Int32.ofNat_toNatClampNeg x (Int32.not_lt.mp h)).symm⟩
  have := Int32.toNatClampNeg_lt x
  simpa using this
theorem rng (x : Int32) (hi : Nat) (hh : hi < 2147483648) : x < 0 ∨ (¬ x < 0 ∧ nI hi < x) ∨ ∃ k, k ≤ hi ∧ x = nI k := by
  by_cases h : x < 0
  · exact Or.inl h
  · obtain ⟨k, h1, rfl⟩ := nat_of h
    by_cases h2 : k ≤ hi
    · exact Or.inr (Or.inr ⟨k, h2, rfl⟩)
    · exact Or.inr (Or.inl ⟨h, (nI_lti hh h1).mpr (by omega)⟩)
theorem bx_l {R V B : Type} (a : R × V) (k : R × V → Option B) (x : String × V → B) : bx (some (.inl a)) k x = k a := (fun (_ : True) => rfl) trivial
theorem bx_r {R V B : Type} (a : String × V) (k : R × V → Option B) (x : String × V → B) : bx (some (.inr a)) k x = some (x a) := (fun (_ : True) => rfl) trivial
theorem bh_l {R V B : Type} (a : R × V) (k : R × V → Option B) (x : String × V → Option B) : bh (some (.inl a)) k x = k a := (fun (_ : True) => rfl) trivial
theorem bh_r {R V B : Type} (a : String × V) (k : R × V → Option B) (x : String × V → Option B) : bh (some (.inr a)) k x = x a := (fun (_ : True) => rfl) trivial
theorem zle : ((0:Int32) ≤ 0) = True := by simp
theorem ole : ((1:Int32) ≤ 0) = False := by simp
theorem twle : ((2:Int32) ≤ 0) = False := by simp
theorem thle : ((3:Int32) ≤ 0) = False := by simp
/-! a state as the row of the reference -/
def row (c o : Nat) (f : Nat → Int32) (n : Nat) : Int32 := if n - o < c then f (n - o) else 0
def E (c : Nat) (mo co bo gv : Int32) (pu gu bi aw ta ins pf po go sh ms de : Nat → Int32) : Nat → Int32 := fun n => if n = 0 then nI c else if n = 1 then co else if n = 2 then mo else if n = 3 then bo else if n = 4 then gv else if n < 13 then row c 5 pu n else if n < 21 then row c 13 gu n else if n < 29 then row c 21 bi n else if n < 37 then row c 29 aw n else if n < 45 then row c 37 ta n else if n < 53 then row c 45 ins n else if n < 61 then row c 53 pf n else if n < 69 then row c 61 po n else if n < 77 then row c 69 go n else if n < 85 then row c 77 sh n else if n < 93 then row c 85 ms n else if n < 157 then de (n - 93) else 0
section ES
variable {c : Nat} {mo co bo gv : Int32} {pu gu bi aw ta ins pf po go sh ms de : Nat → Int32}
theorem E_0 : (E c mo co bo gv pu gu bi aw ta ins pf po go sh ms de) 0 = nI c := (fun (_ : True) => rfl) trivial
theorem E_1 : (E c mo co bo gv pu gu bi aw ta ins pf po go sh ms de) 1 = co := (fun (_ : True) => rfl) trivial
theorem E_2 : (E c mo co bo gv pu gu bi aw ta ins pf po go sh ms de) 2 = mo := (fun (_ : True) => rfl) trivial
theorem E_3 : (E c mo co bo gv pu gu bi aw ta ins pf po go sh ms de) 3 = bo := (fun (_ : True) => rfl) trivial
theorem E_4 : (E c mo co bo gv pu gu bi aw ta ins pf po go sh ms de) 4 = gv := (fun (_ : True) => rfl) trivial
theorem E_pu {i : Nat} (h : i < c) (h8 : c ≤ 8) : (E c mo co bo gv pu gu bi aw ta ins pf po go sh ms de) (5 + i) = pu i := by
  unfold E row; rw [if_neg (by omega), if_neg (by omega), if_neg (by omega), if_neg (by omega), if_neg (by omega), if_pos (by omega)]; rw [if_pos (by omega), Nat.add_sub_cancel_left]
theorem Z_pu {i : Nat} (h : c ≤ i) (h8 : i < 8) : (E c mo co bo gv pu gu bi aw ta ins pf po go sh ms de) (5 + i) = 0 := by
  unfold E row; rw [if_neg (by omega), if_neg (by omega), if_neg (by omega), if_neg (by omega), if_neg (by omega), if_pos (by omega)]; rw [if_neg (by omega)]
theorem E_gu {i : Nat} (h : i < c) (h8 : c ≤ 8) : (E c mo co bo gv pu gu bi aw ta ins pf po go sh ms de) (13 + i) = gu i := by
  unfold E row; rw [if_neg (by omega), if_neg (by omega), if_neg (by omega), if_neg (by omega), if_neg (by omega), if_neg (by omega), if_pos (by omega)]; rw [if_pos (by omega), Nat.add_sub_cancel_left]
theorem Z_gu {i : Nat} (h : c ≤ i) (h8 : i < 8) : (E c mo co bo gv pu gu bi aw ta ins pf po go sh ms de) (13 + i) = 0 := by
  unfold E row; rw [if_neg (by omega), if_neg (by omega), if_neg (by omega), if_neg (by omega), if_neg (by omega), if_neg (by omega), if_pos (by omega)]; rw [if_neg (by omega)]
theorem E_bi {i : Nat} (h : i < c) (h8 : c ≤ 8) : (E c mo co bo gv pu gu bi aw ta ins pf po go sh ms de) (21 + i) = bi i := by
  unfold E row; rw [if_neg (by omega), if_neg (by omega), if_neg (by omega), if_neg (by omega), if_neg (by omega), if_neg (by omega), if_neg (by omega), if_pos (by omega)]; rw [if_pos (by omega), Nat.add_sub_cancel_left]
theorem Z_bi {i : Nat} (h : c ≤ i) (h8 : i < 8) : (E c mo co bo gv pu gu bi aw ta ins pf po go sh ms de) (21 + i) = 0 := by
  unfold E row; rw [if_neg (by omega), if_neg (by omega), if_neg (by omega), if_neg (by omega), if_neg (by omega), if_neg (by omega), if_neg (by omega), if_pos (by omega)]; rw [if_neg (by omega)]
theorem E_aw {i : Nat} (h : i < c) (h8 : c ≤ 8) : (E c mo co bo gv pu gu bi aw ta ins pf po go sh ms de) (29 + i) = aw i := by
  unfold E row; rw [if_neg (by omega), if_neg (by omega), if_neg (by omega), if_neg (by omega), if_neg (by omega), if_neg (by omega), if_neg (by omega), if_neg (by omega), if_pos (by omega)]; rw [if_pos (by omega), Nat.add_sub_cancel_left]
theorem Z_aw {i : Nat} (h : c ≤ i) (h8 : i < 8) : (E c mo co bo gv pu gu bi aw ta ins pf po go sh ms de) (29 + i) = 0 := by
  unfold E row; rw [if_neg (by omega), if_neg (by omega), if_neg (by omega), if_neg (by omega), if_neg (by omega), if_neg (by omega), if_neg (by omega), if_neg (by omega), if_pos (by omega)]; rw [if_neg (by omega)]
theorem E_ta {i : Nat} (h : i < c) (h8 : c ≤ 8) : (E c mo co bo gv pu gu bi aw ta ins pf po go sh ms de) (37 + i) = ta i := by
  unfold E row; rw [if_neg (by omega), if_neg (by omega), if_neg (by omega), if_neg (by omega), if_neg (by omega), if_neg (by omega), if_neg (by omega), if_neg (by omega), if_neg (by omega), if_pos (by omega)]; rw [if_pos (by omega), Nat.add_sub_cancel_left]
theorem Z_ta {i : Nat} (h : c ≤ i) (h8 : i < 8) : (E c mo co bo gv pu gu bi aw ta ins pf po go sh ms de) (37 + i) = 0 := by
  unfold E row; rw [if_neg (by omega), if_neg (by omega), if_neg (by omega), if_neg (by omega), if_neg (by omega), if_neg (by omega), if_neg (by omega), if_neg (by omega), if_neg (by omega), if_pos (by omega)]; rw [if_neg (by omega)]
theorem E_ins {i : Nat} (h : i < c) (h8 : c ≤ 8) : (E c mo co bo gv pu gu bi aw ta ins pf po go sh ms de) (45 + i) = ins i := by
  unfold E row; rw [if_neg (by omega), if_neg (by omega), if_neg (by omega), if_neg (by omega), if_neg (by omega), if_neg (by omega), if_neg (by omega), if_neg (by omega), if_neg (by omega), if_neg (by omega), if_pos (by omega)]; rw [if_pos (by omega), Nat.add_sub_cancel_left]
theorem Z_ins {i : Nat} (h : c ≤ i) (h8 : i < 8) : (E c mo co bo gv pu gu bi aw ta ins pf po go sh ms de) (45 + i) = 0 := by
  unfold E row; rw [if_neg (by omega), if_neg (by omega), if_neg (by omega), if_neg (by omega), if_neg (by omega), if_neg (by omega), if_neg (by omega), if_neg (by omega), if_neg (by omega), if_neg (by omega), if_pos (by omega)]; rw [if_neg (by omega)]
theorem E_pf {i : Nat} (h : i < c) (h8 : c ≤ 8) : (E c mo co bo gv pu gu bi aw ta ins pf po go sh ms de) (53 + i) = pf i := by
  unfold E row; rw [if_neg (by omega), if_neg (by omega), if_neg (by omega), if_neg (by omega), if_neg (by omega), if_neg (by omega), if_neg (by omega), if_neg (by omega), if_neg (by omega), if_neg (by omega), if_neg (by omega), if_pos (by omega)]; rw [if_pos (by omega), Nat.add_sub_cancel_left]
theorem Z_pf {i : Nat} (h : c ≤ i) (h8 : i < 8) : (E c mo co bo gv pu gu bi aw ta ins pf po go sh ms de) (53 + i) = 0 := by
  unfold E row; rw [if_neg (by omega), if_neg (by omega), if_neg (by omega), if_neg (by omega), if_neg (by omega), if_neg (by omega), if_neg (by omega), if_neg (by omega), if_neg (by omega), if_neg (by omega), if_neg (by omega), if_pos (by omega)]; rw [if_neg (by omega)]
theorem E_po {i : Nat} (h : i < c) (h8 : c ≤ 8) : (E c mo co bo gv pu gu bi aw ta ins pf po go sh ms de) (61 + i) = po i := by
  unfold E row; rw [if_neg (by omega), if_neg (by omega), if_neg (by omega), if_neg (by omega), if_neg (by omega), if_neg (by omega), if_neg (by omega), if_neg (by omega), if_neg (by omega), if_neg (by omega), if_neg (by omega), if_neg (by omega), if_pos (by omega)]; rw [if_pos (by omega), Nat.add_sub_cancel_left]
theorem Z_po {i : Nat} (h : c ≤ i) (h8 : i < 8) : (E c mo co bo gv pu gu bi aw ta ins pf po go sh ms de) (61 + i) = 0 := by
  unfold E row; rw [if_neg (by omega), if_neg (by omega), if_neg (by omega), if_neg (by omega), if_neg (by omega), if_neg (by omega), if_neg (by omega), if_neg (by omega), if_neg (by omega), if_neg (by omega), if_neg (by omega), if_neg (by omega), if_pos (by omega)]; rw [if_neg (by omega)]
theorem E_go {i : Nat} (h : i < c) (h8 : c ≤ 8) : (E c mo co bo gv pu gu bi aw ta ins pf po go sh ms de) (69 + i) = go i := by
  unfold E row; rw [if_neg (by omega), if_neg (by omega), if_neg (by omega), if_neg (by omega), if_neg (by omega), if_neg (by omega), if_neg (by omega), if_neg (by omega), if_neg (by omega), if_neg (by omega), if_neg (by omega), if_neg (by omega), if_neg (by omega), if_pos (by omega)]; rw [if_pos (by omega), Nat.add_sub_cancel_left]
theorem Z_go {i : Nat} (h : c ≤ i) (h8 : i < 8) : (E c mo co bo gv pu gu bi aw ta ins pf po go sh ms de) (69 + i) = 0 := by
  unfold E row; rw [if_neg (by omega), if_neg (by omega), if_neg (by omega), if_neg (by omega), if_neg (by omega), if_neg (by omega), if_neg (by omega), if_neg (by omega), if_neg (by omega), if_neg (by omega), if_neg (by omega), if_neg (by omega), if_neg (by omega), if_pos (by omega)]; rw [if_neg (by omega)]
theorem E_sh {i : Nat} (h : i < c) (h8 : c ≤ 8) : (E c mo co bo gv pu gu bi aw ta ins pf po go sh ms de) (77 + i) = sh i := by
  unfold E row; rw [if_neg (by omega), if_neg (by omega), if_neg (by omega), if_neg (by omega), if_neg (by omega), if_neg (by omega), if_neg (by omega), if_neg (by omega), if_neg (by omega), if_neg (by omega), if_neg (by omega), if_neg (by omega), if_neg (by omega), if_neg (by omega), if_pos (by omega)]; rw [if_pos (by omega), Nat.add_sub_cancel_left]
theorem Z_sh {i : Nat} (h : c ≤ i) (h8 : i < 8) : (E c mo co bo gv pu gu bi aw ta ins pf po go sh ms de) (77 + i) = 0 := by
  unfold E row; rw [if_neg (by omega), if_neg (by omega), if_neg (by omega), if_neg (by omega), if_neg (by omega), if_neg (by omega), if_neg (by omega), if_neg (by omega), if_neg (by omega), if_neg (by omega), if_neg (by omega), if_neg (by omega), if_neg (by omega), if_neg (by omega), if_pos (by omega)]; rw [if_neg (by omega)]
theorem E_ms {i : Nat} (h : i < c) (h8 : c ≤ 8) : (E c mo co bo gv pu gu bi aw ta ins pf po go sh ms de) (85 + i) = ms i := by
  unfold E row; rw [if_neg (by omega), if_neg (by omega), if_neg (by omega), if_neg (by omega), if_neg (by omega), if_neg (by omega), if_neg (by omega), if_neg (by omega), if_neg (by omega), if_neg (by omega), if_neg (by omega), if_neg (by omega), if_neg (by omega), if_neg (by omega), if_neg (by omega), if_pos (by omega)]; rw [if_pos (by omega), Nat.add_sub_cancel_left]
theorem Z_ms {i : Nat} (h : c ≤ i) (h8 : i < 8) : (E c mo co bo gv pu gu bi aw ta ins pf po go sh ms de) (85 + i) = 0 := by
  unfold E row; rw [if_neg (by omega), if_neg (by omega), if_neg (by omega), if_neg (by omega), if_neg (by omega), if_neg (by omega), if_neg (by omega), if_neg (by omega), if_neg (by omega), if_neg (by omega), if_neg (by omega), if_neg (by omega), if_neg (by omega), if_neg (by omega), if_neg (by omega), if_pos (by omega)]; rw [if_neg (by omega)]
theorem E_de {i j : Nat} (h : i < 8) (h8 : j < 8) : (E c mo co bo gv pu gu bi aw ta ins pf po go sh ms de) (93 + 8 * i + j) = de (i * 8 + j) := by
  unfold E; rw [if_neg (by omega), if_neg (by omega), if_neg (by omega), if_neg (by omega), if_neg (by omega), if_neg (by omega), if_neg (by omega), if_neg (by omega), if_neg (by omega), if_neg (by omega), if_neg (by omega), if_neg (by omega), if_neg (by omega), if_neg (by omega), if_neg (by omega), if_neg (by omega), if_pos (by omega)]; congr 1; omega
theorem E_out {n : Nat} (h : 157 ≤ n) : (E c mo co bo gv pu gu bi aw ta ins pf po go sh ms de) n = 0 := by
  unfold E; rw [if_neg (by omega), if_neg (by omega), if_neg (by omega), if_neg (by omega), if_neg (by omega), if_neg (by omega), if_neg (by omega), if_neg (by omega), if_neg (by omega), if_neg (by omega), if_neg (by omega), if_neg (by omega), if_neg (by omega), if_neg (by omega), if_neg (by omega), if_neg (by omega), if_neg (by omega)]
theorem U_1 {x : Int32} : upd (E c mo co bo gv pu gu bi aw ta ins pf po go sh ms de) 1 x = (E c mo x bo gv pu gu bi aw ta ins pf po go sh ms de) := by
  funext n; unfold upd E
  by_cases h : n = 1
  · subst h; rfl
  · rw [if_neg h]
    by_cases h0 : n = 0
    · rw [if_pos h0, if_pos h0]
    rw [if_neg h0, if_neg h0]
    rw [if_neg h, if_neg h]
theorem U_2 {x : Int32} : upd (E c mo co bo gv pu gu bi aw ta ins pf po go sh ms de) 2 x = (E c x co bo gv pu gu bi aw ta ins pf po go sh ms de) := by
  funext n; unfold upd E
  by_cases h : n = 2
  · subst h; rfl
  · rw [if_neg h]
    by_cases h0 : n = 0
    · rw [if_pos h0, if_pos h0]
    rw [if_neg h0, if_neg h0]
    by_cases h1 : n = 1
    · rw [if_pos h1, if_pos h1]
    rw [if_neg h1, if_neg h1]
    rw [if_neg h, if_neg h]
theorem U_3 {x : Int32} : upd (E c mo co bo gv pu gu bi aw ta ins pf po go sh ms de) 3 x = (E c mo co x gv pu gu bi aw ta ins pf po go sh ms de) := by
  funext n; unfold upd E
  by_cases h : n = 3
  · subst h; rfl
  · rw [if_neg h]
    by_cases h0 : n = 0
    · rw [if_pos h0, if_pos h0]
    rw [if_neg h0, if_neg h0]
    by_cases h1 : n = 1
    · rw [if_pos h1, if_pos h1]
    rw [if_neg h1, if_neg h1]
    by_cases h2 : n = 2
    · rw [if_pos h2, if_pos h2]
    rw [if_neg h2, if_neg h2]
    rw [if_neg h, if_neg h]
theorem U_4 {x : Int32} : upd (E c mo co bo gv pu gu bi aw ta ins pf po go sh ms de) 4 x = (E c mo co bo x pu gu bi aw ta ins pf po go sh ms de) := by
  funext n; unfold upd E
  by_cases h : n = 4
  · subst h; rfl
  · rw [if_neg h]
    by_cases h0 : n = 0
    · rw [if_pos h0, if_pos h0]
    rw [if_neg h0, if_neg h0]
    by_cases h1 : n = 1
    · rw [if_pos h1, if_pos h1]
    rw [if_neg h1, if_neg h1]
    by_cases h2 : n = 2
    · rw [if_pos h2, if_pos h2]
    rw [if_neg h2, if_neg h2]
    by_cases h3 : n = 3
    · rw [if_pos h3, if_pos h3]
    rw [if_neg h3, if_neg h3]
    rw [if_neg h, if_neg h]
theorem U_pu {i : Nat} {x : Int32} (h : i < c) (h8 : c ≤ 8) : upd (E c mo co bo gv pu gu bi aw ta ins pf po go sh ms de) (5 + i) x = (E c mo co bo gv (upd pu i x) gu bi aw ta ins pf po go sh ms de) := by
  funext n
  by_cases h1 : n = 5 + i
  · subst h1; rw [upd_same, E_pu h h8, upd_same]
  · rw [upd_ne h1]
    by_cases h2 : n < 5 ∨ 13 ≤ n
    · unfold E
      by_cases q0 : n = 0
      · rw [if_pos q0, if_pos q0]
      rw [if_neg q0, if_neg q0]
      by_cases q1 : n = 1
      · rw [if_pos q1, if_pos q1]
      rw [if_neg q1, if_neg q1]
      by_cases q2 : n = 2
      · rw [if_pos q2, if_pos q2]
      rw [if_neg q2, if_neg q2]
      by_cases q3 : n = 3
      · rw [if_pos q3, if_pos q3]
      rw [if_neg q3, if_neg q3]
      by_cases q4 : n = 4
      · rw [if_pos q4, if_pos q4]
      rw [if_neg q4, if_neg q4]
      have h3 : ¬ n < 13 := by omega
      rw [if_neg h3, if_neg h3]
    · obtain ⟨j, rfl⟩ : ∃ j, n = 5 + j := ⟨n - 5, by omega⟩
      by_cases h3 : j < c
      · rw [E_pu h3 h8, E_pu h3 h8, upd_ne (by omega)]
      · rw [Z_pu (by omega) (by omega), Z_pu (by omega) (by omega)]
theorem U_gu {i : Nat} {x : Int32} (h : i < c) (h8 : c ≤ 8) : upd (E c mo co bo gv pu gu bi aw ta ins pf po go sh ms de) (13 + i) x = (E c mo co bo gv pu (upd gu i x) bi aw ta ins pf po go sh ms de) := by
  funext n
  by_cases h1 : n = 13 + i
  · subst h1; rw [upd_same, E_gu h h8, upd_same]
  · rw [upd_ne h1]
    by_cases h2 : n < 13 ∨ 21 ≤ n
    · unfold E
      by_cases q0 : n = 0
      · rw [if_pos q0, if_pos q0]
      rw [if_neg q0, if_neg q0]
      by_cases q1 : n = 1
      · rw [if_pos q1, if_pos q1]
      rw [if_neg q1, if_neg q1]
      by_cases q2 : n = 2
      · rw [if_pos q2, if_pos q2]
      rw [if_neg q2, if_neg q2]
      by_cases q3 : n = 3
      · rw [if_pos q3, if_pos q3]
      rw [if_neg q3, if_neg q3]
      by_cases q4 : n = 4
      · rw [if_pos q4, if_pos q4]
      rw [if_neg q4, if_neg q4]
      by_cases q5 : n < 13
      · rw [if_pos q5, if_pos q5]
      rw [if_neg q5, if_neg q5]
      have h3 : ¬ n < 21 := by omega
      rw [if_neg h3, if_neg h3]
    · obtain ⟨j, rfl⟩ : ∃ j, n = 13 + j := ⟨n - 13, by omega⟩
      by_cases h3 : j < c
      · rw [E_gu h3 h8, E_gu h3 h8, upd_ne (by omega)]
      · rw [Z_gu (by omega) (by omega), Z_gu (by omega) (by omega)]
theorem U_bi {i : Nat} {x : Int32} (h : i < c) (h8 : c ≤ 8) : upd (E c mo co bo gv pu gu bi aw ta ins pf po go sh ms de) (21 + i) x = (E c mo co bo gv pu gu (upd bi i x) aw ta ins pf po go sh ms de) := by
  funext n
  by_cases h1 : n = 21 + i
  · subst h1; rw [upd_same, E_bi h h8, upd_same]
  · rw [upd_ne h1]
    by_cases h2 : n < 21 ∨ 29 ≤ n
    · unfold E
      by_cases q0 : n = 0
      · rw [if_pos q0, if_pos q0]
      rw [if_neg q0, if_neg q0]
      by_cases q1 : n = 1
      · rw [if_pos q1, if_pos q1]
      rw [if_neg q1, if_neg q1]
      by_cases q2 : n = 2
      · rw [if_pos q2, if_pos q2]
      rw [if_neg q2, if_neg q2]
      by_cases q3 : n = 3
      · rw [if_pos q3, if_pos q3]
      rw [if_neg q3, if_neg q3]
      by_cases q4 : n = 4
      · rw [if_pos q4, if_pos q4]
      rw [if_neg q4, if_neg q4]
      by_cases q5 : n < 13
      · rw [if_pos q5, if_pos q5]
      rw [if_neg q5, if_neg q5]
      by_cases q6 : n < 21
      · rw [if_pos q6, if_pos q6]
      rw [if_neg q6, if_neg q6]
      have h3 : ¬ n < 29 := by omega
      rw [if_neg h3, if_neg h3]
    · obtain ⟨j, rfl⟩ : ∃ j, n = 21 + j := ⟨n - 21, by omega⟩
      by_cases h3 : j < c
      · rw [E_bi h3 h8, E_bi h3 h8, upd_ne (by omega)]
      · rw [Z_bi (by omega) (by omega), Z_bi (by omega) (by omega)]
theorem U_aw {i : Nat} {x : Int32} (h : i < c) (h8 : c ≤ 8) : upd (E c mo co bo gv pu gu bi aw ta ins pf po go sh ms de) (29 + i) x = (E c mo co bo gv pu gu bi (upd aw i x) ta ins pf po go sh ms de) := by
  funext n
  by_cases h1 : n = 29 + i
  · subst h1; rw [upd_same, E_aw h h8, upd_same]
  · rw [upd_ne h1]
    by_cases h2 : n < 29 ∨ 37 ≤ n
    · unfold E
      by_cases q0 : n = 0
      · rw [if_pos q0, if_pos q0]
      rw [if_neg q0, if_neg q0]
      by_cases q1 : n = 1
      · rw [if_pos q1, if_pos q1]
      rw [if_neg q1, if_neg q1]
      by_cases q2 : n = 2
      · rw [if_pos q2, if_pos q2]
      rw [if_neg q2, if_neg q2]
      by_cases q3 : n = 3
      · rw [if_pos q3, if_pos q3]
      rw [if_neg q3, if_neg q3]
      by_cases q4 : n = 4
      · rw [if_pos q4, if_pos q4]
      rw [if_neg q4, if_neg q4]
      by_cases q5 : n < 13
      · rw [if_pos q5, if_pos q5]
      rw [if_neg q5, if_neg q5]
      by_cases q6 : n < 21
      · rw [if_pos q6, if_pos q6]
      rw [if_neg q6, if_neg q6]
      by_cases q7 : n < 29
      · rw [if_pos q7, if_pos q7]
      rw [if_neg q7, if_neg q7]
      have h3 : ¬ n < 37 := by omega
      rw [if_neg h3, if_neg h3]
    · obtain ⟨j, rfl⟩ : ∃ j, n = 29 + j := ⟨n - 29, by omega⟩
      by_cases h3 : j < c
      · rw [E_aw h3 h8, E_aw h3 h8, upd_ne (by omega)]
      · rw [Z_aw (by omega) (by omega), Z_aw (by omega) (by omega)]
theorem U_ta {i : Nat} {x : Int32} (h : i < c) (h8 : c ≤ 8) : upd (E c mo co bo gv pu gu bi aw ta ins pf po go sh ms de) (37 + i) x = (E c mo co bo gv pu gu bi aw (upd ta i x) ins pf po go sh ms de) := by
  funext n
  by_cases h1 : n = 37 + i
  · subst h1; rw [upd_same, E_ta h h8, upd_same]
  · rw [upd_ne h1]
    by_cases h2 : n < 37 ∨ 45 ≤ n
    · unfold E
      by_cases q0 : n = 0
      · rw [if_pos q0, if_pos q0]
      rw [if_neg q0, if_neg q0]
      by_cases q1 : n = 1
      · rw [if_pos q1, if_pos q1]
      rw [if_neg q1, if_neg q1]
      by_cases q2 : n = 2
      · rw [if_pos q2, if_pos q2]
      rw [if_neg q2, if_neg q2]
      by_cases q3 : n = 3
      · rw [if_pos q3, if_pos q3]
      rw [if_neg q3, if_neg q3]
      by_cases q4 : n = 4
      · rw [if_pos q4, if_pos q4]
      rw [if_neg q4, if_neg q4]
      by_cases q5 : n < 13
      · rw [if_pos q5, if_pos q5]
      rw [if_neg q5, if_neg q5]
      by_cases q6 : n < 21
      · rw [if_pos q6, if_pos q6]
      rw [if_neg q6, if_neg q6]
      by_cases q7 : n < 29
      · rw [if_pos q7, if_pos q7]
      rw [if_neg q7, if_neg q7]
      by_cases q8 : n < 37
      · rw [if_pos q8, if_pos q8]
      rw [if_neg q8, if_neg q8]
      have h3 : ¬ n < 45 := by omega
      rw [if_neg h3, if_neg h3]
    · obtain ⟨j, rfl⟩ : ∃ j, n = 37 + j := ⟨n - 37, by omega⟩
      by_cases h3 : j < c
      · rw [E_ta h3 h8, E_ta h3 h8, upd_ne (by omega)]
      · rw [Z_ta (by omega) (by omega), Z_ta (by omega) (by omega)]
theorem U_ins {i : Nat} {x : Int32} (h : i < c) (h8 : c ≤ 8) : upd (E c mo co bo gv pu gu bi aw ta ins pf po go sh ms de) (45 + i) x = (E c mo co bo gv pu gu bi aw ta (upd ins i x) pf po go sh ms de) := by
  funext n
  by_cases h1 : n = 45 + i
  · subst h1; rw [upd_same, E_ins h h8, upd_same]
  · rw [upd_ne h1]
    by_cases h2 : n < 45 ∨ 53 ≤ n
    · unfold E
      by_cases q0 : n = 0
      · rw [if_pos q0, if_pos q0]
      rw [if_neg q0, if_neg q0]
      by_cases q1 : n = 1
      · rw [if_pos q1, if_pos q1]
      rw [if_neg q1, if_neg q1]
      by_cases q2 : n = 2
      · rw [if_pos q2, if_pos q2]
      rw [if_neg q2, if_neg q2]
      by_cases q3 : n = 3
      · rw [if_pos q3, if_pos q3]
      rw [if_neg q3, if_neg q3]
      by_cases q4 : n = 4
      · rw [if_pos q4, if_pos q4]
      rw [if_neg q4, if_neg q4]
      by_cases q5 : n < 13
      · rw [if_pos q5, if_pos q5]
      rw [if_neg q5, if_neg q5]
      by_cases q6 : n < 21
      · rw [if_pos q6, if_pos q6]
      rw [if_neg q6, if_neg q6]
      by_cases q7 : n < 29
      · rw [if_pos q7, if_pos q7]
      rw [if_neg q7, if_neg q7]
      by_cases q8 : n < 37
      · rw [if_pos q8, if_pos q8]
      rw [if_neg q8, if_neg q8]
      by_cases q9 : n < 45
      · rw [if_pos q9, if_pos q9]
      rw [if_neg q9, if_neg q9]
      have h3 : ¬ n < 53 := by omega
      rw [if_neg h3, if_neg h3]
    · obtain ⟨j, rfl⟩ : ∃ j, n = 45 + j := ⟨n - 45, by omega⟩
      by_cases h3 : j < c
      · rw [E_ins h3 h8, E_ins h3 h8, upd_ne (by omega)]
      · rw [Z_ins (by omega) (by omega), Z_ins (by omega) (by omega)]
theorem U_pf {i : Nat} {x : Int32} (h : i < c) (h8 : c ≤ 8) : upd (E c mo co bo gv pu gu bi aw ta ins pf po go sh ms de) (53 + i) x = (E c mo co bo gv pu gu bi aw ta ins (upd pf i x) po go sh ms de) := by
  funext n
  by_cases h1 : n = 53 + i
  · subst h1; rw [upd_same, E_pf h h8, upd_same]
  · rw [upd_ne h1]
    by_cases h2 : n < 53 ∨ 61 ≤ n
    · unfold E
      by_cases q0 : n = 0
      · rw [if_pos q0, if_pos q0]
      rw [if_neg q0, if_neg q0]
      by_cases q1 : n = 1
      · rw [if_pos q1, if_pos q1]
      rw [if_neg q1, if_neg q1]
      by_cases q2 : n = 2
      · rw [if_pos q2, if_pos q2]
      rw [if_neg q2, if_neg q2]
      by_cases q3 : n = 3
      · rw [if_pos q3, if_pos q3]
      rw [if_neg q3, if_neg q3]
      by_cases q4 : n = 4
      · rw [if_pos q4, if_pos q4]
      rw [if_neg q4, if_neg q4]
      by_cases q5 : n < 13
      · rw [if_pos q5, if_pos q5]
      rw [if_neg q5, if_neg q5]
      by_cases q6 : n < 21
      · rw [if_pos q6, if_pos q6]
      rw [if_neg q6, if_neg q6]
      by_cases q7 : n < 29
      · rw [if_pos q7, if_pos q7]
      rw [if_neg q7, if_neg q7]
      by_cases q8 : n < 37
      · rw [if_pos q8, if_pos q8]
      rw [if_neg q8, if_neg q8]
      by_cases q9 : n < 45
      · rw [if_pos q9, if_pos q9]
      rw [if_neg q9, if_neg q9]
      by_cases q10 : n < 53
      · rw [if_pos q10, if_pos q10]
      rw [if_neg q10, if_neg q10]
      have h3 : ¬ n < 61 := by omega
      rw [if_neg h3, if_neg h3]
    · obtain ⟨j, rfl⟩ : ∃ j, n = 53 + j := ⟨n - 53, by omega⟩
      by_cases h3 : j < c
      · rw [E_pf h3 h8, E_pf h3 h8, upd_ne (by omega)]
      · rw [Z_pf (by omega) (by omega), Z_pf (by omega) (by omega)]
theorem U_po {i : Nat} {x : Int32} (h : i < c) (h8 : c ≤ 8) : upd (E c mo co bo gv pu gu bi aw ta ins pf po go sh ms de) (61 + i) x = (E c mo co bo gv pu gu bi aw ta ins pf (upd po i x) go sh ms de) := by
  funext n
  by_cases h1 : n = 61 + i
  · subst h1; rw [upd_same, E_po h h8, upd_same]
  · rw [upd_ne h1]
    by_cases h2 : n < 61 ∨ 69 ≤ n
    · unfold E
      by_cases q0 : n = 0
      · rw [if_pos q0, if_pos q0]
      rw [if_neg q0, if_neg q0]
      by_cases q1 : n = 1
      · rw [if_pos q1, if_pos q1]
      rw [if_neg q1, if_neg q1]
      by_cases q2 : n = 2
      · rw [if_pos q2, if_pos q2]
      rw [if_neg q2, if_neg q2]
      by_cases q3 : n = 3
      · rw [if_pos q3, if_pos q3]
      rw [if_neg q3, if_neg q3]
      by_cases q4 : n = 4
      · rw [if_pos q4, if_pos q4]
      rw [if_neg q4, if_neg q4]
      by_cases q5 : n < 13
      · rw [if_pos q5, if_pos q5]
      rw [if_neg q5, if_neg q5]
      by_cases q6 : n < 21
      · rw [if_pos q6, if_pos q6]
      rw [if_neg q6, if_neg q6]
      by_cases q7 : n < 29
      · rw [if_pos q7, if_pos q7]
      rw [if_neg q7, if_neg q7]
      by_cases q8 : n < 37
      · rw [if_pos q8, if_pos q8]
      rw [if_neg q8, if_neg q8]
      by_cases q9 : n < 45
      · rw [if_pos q9, if_pos q9]
      rw [if_neg q9, if_neg q9]
      by_cases q10 : n < 53
      · rw [if_pos q10, if_pos q10]
      rw [if_neg q10, if_neg q10]
      by_cases q11 : n < 61
      · rw [if_pos q11, if_pos q11]
      rw [if_neg q11, if_neg q11]
      have h3 : ¬ n < 69 := by omega
      rw [if_neg h3, if_neg h3]
    · obtain ⟨j, rfl⟩ : ∃ j, n = 61 + j := ⟨n - 61, by omega⟩
      by_cases h3 : j < c
      · rw [E_po h3 h8, E_po h3 h8, upd_ne (by omega)]
      · rw [Z_po (by omega) (by omega), Z_po (by omega) (by omega)]
theorem U_go {i : Nat} {x : Int32} (h : i < c) (h8 : c ≤ 8) : upd (E c mo co bo gv pu gu bi aw ta ins pf po go sh ms de) (69 + i) x = (E c mo co bo gv pu gu bi aw ta ins pf po (upd go i x) sh ms de) := by
  funext n
  by_cases h1 : n = 69 + i
  · subst h1; rw [upd_same, E_go h h8, upd_same]
  · rw [upd_ne h1]
    by_cases h2 : n < 69 ∨ 77 ≤ n
    · unfold E
      by_cases q0 : n = 0
      · rw [if_pos q0, if_pos q0]
      rw [if_neg q0, if_neg q0]
      by_cases q1 : n = 1
      · rw [if_pos q1, if_pos q1]
      rw [if_neg q1, if_neg q1]
      by_cases q2 : n = 2
      · rw [if_pos q2, if_pos q2]
      rw [if_neg q2, if_neg q2]
      by_cases q3 : n = 3
      · rw [if_pos q3, if_pos q3]
      rw [if_neg q3, if_neg q3]
      by_cases q4 : n = 4
      · rw [if_pos q4, if_pos q4]
      rw [if_neg q4, if_neg q4]
      by_cases q5 : n < 13
      · rw [if_pos q5, if_pos q5]
      rw [if_neg q5, if_neg q5]
      by_cases q6 : n < 21
      · rw [if_pos q6, if_pos q6]
      rw [if_neg q6, if_neg q6]
      by_cases q7 : n < 29
      · rw [if_pos q7, if_pos q7]
      rw [if_neg q7, if_neg q7]
      by_cases q8 : n < 37
      · rw [if_pos q8, if_pos q8]
      rw [if_neg q8, if_neg q8]
      by_cases q9 : n < 45
      · rw [if_pos q9, if_pos q9]
      rw [if_neg q9, if_neg q9]
      by_cases q10 : n < 53
      · rw [if_pos q10, if_pos q10]
      rw [if_neg q10, if_neg q10]
      by_cases q11 : n < 61
      · rw [if_pos q11, if_pos q11]
      rw [if_neg q11, if_neg q11]
      by_cases q12 : n < 69
      · rw [if_pos q12, if_pos q12]
      rw [if_neg q12, if_neg q12]
      have h3 : ¬ n < 77 := by omega
      rw [if_neg h3, if_neg h3]
    · obtain ⟨j, rfl⟩ : ∃ j, n = 69 + j := ⟨n - 69, by omega⟩
      by_cases h3 : j < c
      · rw [E_go h3 h8, E_go h3 h8, upd_ne (by omega)]
      · rw [Z_go (by omega) (by omega), Z_go (by omega) (by omega)]
theorem U_sh {i : Nat} {x : Int32} (h : i < c) (h8 : c ≤ 8) : upd (E c mo co bo gv pu gu bi aw ta ins pf po go sh ms de) (77 + i) x = (E c mo co bo gv pu gu bi aw ta ins pf po go (upd sh i x) ms de) := by
  funext n
  by_cases h1 : n = 77 + i
  · subst h1; rw [upd_same, E_sh h h8, upd_same]
  · rw [upd_ne h1]
    by_cases h2 : n < 77 ∨ 85 ≤ n
    · unfold E
      by_cases q0 : n = 0
      · rw [if_pos q0, if_pos q0]
      rw [if_neg q0, if_neg q0]
      by_cases q1 : n = 1
      · rw [if_pos q1, if_pos q1]
      rw [if_neg q1, if_neg q1]
      by_cases q2 : n = 2
      · rw [if_pos q2, if_pos q2]
      rw [if_neg q2, if_neg q2]
      by_cases q3 : n = 3
      · rw [if_pos q3, if_pos q3]
      rw [if_neg q3, if_neg q3]
      by_cases q4 : n = 4
      · rw [if_pos q4, if_pos q4]
      rw [if_neg q4, if_neg q4]
      by_cases q5 : n < 13
      · rw [if_pos q5, if_pos q5]
      rw [if_neg q5, if_neg q5]
      by_cases q6 : n < 21
      · rw [if_pos q6, if_pos q6]
      rw [if_neg q6, if_neg q6]
      by_cases q7 : n < 29
      · rw [if_pos q7, if_pos q7]
      rw [if_neg q7, if_neg q7]
      by_cases q8 : n < 37
      · rw [if_pos q8, if_pos q8]
      rw [if_neg q8, if_neg q8]
      by_cases q9 : n < 45
      · rw [if_pos q9, if_pos q9]
      rw [if_neg q9, if_neg q9]
      by_cases q10 : n < 53
      · rw [if_pos q10, if_pos q10]
      rw [if_neg q10, if_neg q10]
      by_cases q11 : n < 61
      · rw [if_pos q11, if_pos q11]
      rw [if_neg q11, if_neg q11]
      by_cases q12 : n < 69
      · rw [if_pos q12, if_pos q12]
      rw [if_neg q12, if_neg q12]
      by_cases q13 : n < 77
      · rw [if_pos q13, if_pos q13]
      rw [if_neg q13, if_neg q13]
      have h3 : ¬ n < 85 := by omega
      rw [if_neg h3, if_neg h3]
    · obtain ⟨j, rfl⟩ : ∃ j, n = 77 + j := ⟨n - 77, by omega⟩
      by_cases h3 : j < c
      · rw [E_sh h3 h8, E_sh h3 h8, upd_ne (by omega)]
      · rw [Z_sh (by omega) (by omega), Z_sh (by omega) (by omega)]
theorem U_ms {i : Nat} {x : Int32} (h : i < c) (h8 : c ≤ 8) : upd (E c mo co bo gv pu gu bi aw ta ins pf po go sh ms de) (85 + i) x = (E c mo co bo gv pu gu bi aw ta ins pf po go sh (upd ms i x) de) := by
  funext n
  by_cases h1 : n = 85 + i
  · subst h1; rw [upd_same, E_ms h h8, upd_same]
  · rw [upd_ne h1]
    by_cases h2 : n < 85 ∨ 93 ≤ n
    · unfold E
      by_cases q0 : n = 0
      · rw [if_pos q0, if_pos q0]
      rw [if_neg q0, if_neg q0]
      by_cases q1 : n = 1
      · rw [if_pos q1, if_pos q1]
      rw [if_neg q1, if_neg q1]
      by_cases q2 : n = 2
      · rw [if_pos q2, if_pos q2]
      rw [if_neg q2, if_neg q2]
      by_cases q3 : n = 3
      · rw [if_pos q3, if_pos q3]
      rw [if_neg q3, if_neg q3]
      by_cases q4 : n = 4
      · rw [if_pos q4, if_pos q4]
      rw [if_neg q4, if_neg q4]
      by_cases q5 : n < 13
      · rw [if_pos q5, if_pos q5]
      rw [if_neg q5, if_neg q5]
      by_cases q6 : n < 21
      · rw [if_pos q6, if_pos q6]
      rw [if_neg q6, if_neg q6]
      by_cases q7 : n < 29
      · rw [if_pos q7, if_pos q7]
      rw [if_neg q7, if_neg q7]
      by_cases q8 : n < 37
      · rw [if_pos q8, if_pos q8]
      rw [if_neg q8, if_neg q8]
      by_cases q9 : n < 45
      · rw [if_pos q9, if_pos q9]
      rw [if_neg q9, if_neg q9]
      by_cases q10 : n < 53
      · rw [if_pos q10, if_pos q10]
      rw [if_neg q10, if_neg q10]
      by_cases q11 : n < 61
      · rw [if_pos q11, if_pos q11]
      rw [if_neg q11, if_neg q11]
      by_cases q12 : n < 69
      · rw [if_pos q12, if_pos q12]
      rw [if_neg q12, if_neg q12]
      by_cases q13 : n < 77
      · rw [if_pos q13, if_pos q13]
      rw [if_neg q13, if_neg q13]
      by_cases q14 : n < 85
      · rw [if_pos q14, if_pos q14]
      rw [if_neg q14, if_neg q14]
      have h3 : ¬ n < 93 := by omega
      rw [if_neg h3, if_neg h3]
    · obtain ⟨j, rfl⟩ : ∃ j, n = 85 + j := ⟨n - 85, by omega⟩
      by_cases h3 : j < c
      · rw [E_ms h3 h8, E_ms h3 h8, upd_ne (by omega)]
      · rw [Z_ms (by omega) (by omega), Z_ms (by omega) (by omega)]
theorem U_de {i j : Nat} {x : Int32} (h : i < 8) (h8 : j < 8) : upd (E c mo co bo gv pu gu bi aw ta ins pf po go sh ms de) (93 + 8 * i + j) x = (E c mo co bo gv pu gu bi aw ta ins pf po go sh ms (upd de (i * 8 + j) x)) := by
  funext n
  by_cases h1 : n = 93 + 8 * i + j
  · subst h1; rw [upd_same, E_de h h8, upd_same]
  · rw [upd_ne h1]
    unfold E
    by_cases q0 : n = 0
    · rw [if_pos q0, if_pos q0]
    rw [if_neg q0, if_neg q0]
    by_cases q1 : n = 1
    · rw [if_pos q1, if_pos q1]
    rw [if_neg q1, if_neg q1]
    by_cases q2 : n = 2
    · rw [if_pos q2, if_pos q2]
    rw [if_neg q2, if_neg q2]
    by_cases q3 : n = 3
    · rw [if_pos q3, if_pos q3]
    rw [if_neg q3, if_neg q3]
    by_cases q4 : n = 4
    · rw [if_pos q4, if_pos q4]
    rw [if_neg q4, if_neg q4]
    by_cases q5 : n < 13
    · rw [if_pos q5, if_pos q5]
    rw [if_neg q5, if_neg q5]
    by_cases q6 : n < 21
    · rw [if_pos q6, if_pos q6]
    rw [if_neg q6, if_neg q6]
    by_cases q7 : n < 29
    · rw [if_pos q7, if_pos q7]
    rw [if_neg q7, if_neg q7]
    by_cases q8 : n < 37
    · rw [if_pos q8, if_pos q8]
    rw [if_neg q8, if_neg q8]
    by_cases q9 : n < 45
    · rw [if_pos q9, if_pos q9]
    rw [if_neg q9, if_neg q9]
    by_cases q10 : n < 53
    · rw [if_pos q10, if_pos q10]
    rw [if_neg q10, if_neg q10]
    by_cases q11 : n < 61
    · rw [if_pos q11, if_pos q11]
    rw [if_neg q11, if_neg q11]
    by_cases q12 : n < 69
    · rw [if_pos q12, if_pos q12]
    rw [if_neg q12, if_neg q12]
    by_cases q13 : n < 77
    · rw [if_pos q13, if_pos q13]
    rw [if_neg q13, if_neg q13]
    by_cases q14 : n < 85
    · rw [if_pos q14, if_pos q14]
    rw [if_neg q14, if_neg q14]
    by_cases q15 : n < 93
    · rw [if_pos q15, if_pos q15]
    rw [if_neg q15, if_neg q15]
    by_cases q16 : n < 157
    · rw [if_pos q16, if_pos q16, upd_ne (by omega)]
    · rw [if_neg q16, if_neg q16]
end ES
