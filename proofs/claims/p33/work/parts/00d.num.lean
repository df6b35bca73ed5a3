/-! natural numbers in rows -/
def nf (f : Nat → Nat) : Nat → Int32 := fun j => nI (f j)
def un (f : Nat → Nat) (i x : Nat) : Nat → Nat := fun j => if j = i then x else f j
theorem nf_at (f : Nat → Nat) (j : Nat) : nf f j = nI (f j) := (fun (_ : True) => rfl) trivial
theorem nf_un (f : Nat → Nat) (i x : Nat) : upd (nf f) i (nI x) = nf (un f i x) := by
  funext j
  unfold upd nf un
  by_cases h : j = i
  · rw [if_pos h, if_pos h]
  · rw [if_neg h, if_neg h]
theorem un_same (f : Nat → Nat) (i x : Nat) : un f i x i = x := by unfold un; rw [if_pos rfl]
theorem un_ne {f : Nat → Nat} {i j x : Nat} (h : j ≠ i) : un f i x j = f j := by unfold un; rw [if_neg h]
theorem un_self (f : Nat → Nat) (i : Nat) : un f i (f i) = f := by
  funext j
  unfold un
  by_cases h : j = i
  · rw [if_pos h, h]
  · rw [if_neg h]
theorem un_un (f : Nat → Nat) (i x y : Nat) : un (un f i x) i y = un f i y := by
  funext j
  unfold un
  by_cases h : j = i
  · rw [if_pos h, if_pos h]
  · rw [if_neg h, if_neg h, if_neg h]
/-- the sum over the first ones -/
def su : Nat → (Nat → Nat) → Nat
  | 0, _ => 0
  | n + 1, f => su n f + f n
theorem su_out {c i x : Nat} {f : Nat → Nat} (h : c ≤ i) : su c (un f i x) = su c f := by
  induction c with
  | zero => rfl
  | succ n ih => unfold su; rw [ih (by omega), un_ne (by omega)]
theorem su_un {c i x : Nat} {f : Nat → Nat} (h : i < c) : su c (un f i x) + f i = su c f + x := by
  induction c with
  | zero => omega
  | succ n ih =>
    unfold su
    by_cases e : i = n
    · subst e; rw [un_same, su_out (Nat.le_refl _)]; omega
    · rw [un_ne (by omega)]; have := ih (by omega); omega
theorem su_ge {c i : Nat} {f : Nat → Nat} (h : i < c) : f i ≤ su c f := by
  induction c with
  | zero => omega
  | succ n ih =>
    unfold su
    by_cases e : i = n
    · subst e; omega
    · have := ih (by omega); omega
theorem su_ext {c : Nat} {f f' : Nat → Nat} (h : ∀ j, j < c → f j = f' j) : su c f = su c f' := by
  induction c with
  | zero => rfl
  | succ n ih => unfold su; rw [ih (fun j hj => h j (by omega)), h n (by omega)]
theorem su_zero (c : Nat) : su c (fun _ => 0) = 0 := by
  induction c with
  | zero => rfl
  | succ n ih => unfold su; rw [ih]; rfl
theorem su_s (n : Nat) (f : Nat → Nat) : su (n + 1) f = su n f + f n := (fun (_ : True) => rfl) trivial
theorem nI_sub {a b : Nat} (h : b ≤ a) : nI a - nI b = nI (a - b) := (Int32.ofNat_sub a b h).symm
theorem nI_div {a b : Nat} (ha : a < 2147483648) (hb : b < 2147483648) : nI a / nI b = nI (a / b) := (Int32.ofNat_div (by simpa using ha) (by simpa using hb)).symm
theorem nI_rem {a b : Nat} (ha : a < 2147483648) (hb : b < 2147483648) : nI a - nI a / nI b * nI b = nI (a % b) := by
  rw [nI_div ha hb, q_mul, nI_sub (Nat.div_mul_le_self a b)]
  congr 1
  have := Nat.div_add_mod a b
  rw [Nat.mul_comm] at this
  omega
theorem nI_ltneg {a : Nat} (h : a < 2147483648) : nI a < (-99999:Int32) ↔ False := ⟨fun q => by
  rw [Int32.lt_iff_toInt_lt, nI_toInt (by simpa using h)] at q
  have h2 : (-99999 : Int32).toInt = -99999 := by decide
  omega, fun q => q.elim⟩
theorem add0 (x : Int32) : x + (0:Int32) = x := Int32.add_zero x
theorem mod_wrap {p k c : Nat} (hp : p < c) (hk : k < c) (h : c ≤ p + k) : (p + k) % c = p + k - c := by
  rw [Nat.mod_eq_sub_mod h, Nat.mod_eq_of_lt (by omega)]
/-- nothing from c on -/
def Zn (c : Nat) (f : Nat → Nat) : Prop := ∀ j, c ≤ j → f j = 0
def Zi (c : Nat) (f : Nat → Int32) : Prop := ∀ j, c ≤ j → f j = 0
theorem Zn.un {c i x : Nat} {f : Nat → Nat} (h : Zn c f) (hi : i < c) : Zn c (un f i x) := fun j hj => by rw [un_ne (by omega)]; exact h j hj
theorem Zi.upd {c i : Nat} {x : Int32} {f : Nat → Int32} (h : Zi c f) (hi : i < c) : Zi c (upd f i x) := fun j hj => by rw [upd_ne (by omega)]; exact h j hj
theorem Zn.up {c c' : Nat} {f : Nat → Nat} (h : Zn c f) (hc : c ≤ c') : Zn c' f := fun j hj => h j (by omega)
theorem Zi.up {c c' : Nat} {f : Nat → Int32} (h : Zi c f) (hc : c ≤ c') : Zi c' f := fun j hj => h j (by omega)
def Bo (a : Nat → Int32) : Prop := ∀ i, a i = 0 ∨ a i = 1
theorem Bo.upd {i : Nat} {x : Int32} {a : Nat → Int32} (h : Bo a) (hx : x = 0 ∨ x = 1) : Bo (upd a i x) := fun j => by
  by_cases e : j = i
  · subst e; rw [upd_same]; exact hx
  · rw [upd_ne e]; exact h j
def Gu (c : Nat) (a : Nat → Int32) : Prop := ∀ i, i < c → a i = (-99999:Int32) ∨ ∃ g, g < c ∧ g ≠ i ∧ a i = nI g
/-- debts: only between two members -/
def Db (c : Nat) (D : Nat → Nat) : Prop := ∀ k, D k ≠ 0 → ∃ i j, i < c ∧ j < c ∧ i ≠ j ∧ k = i * 8 + j
/-- one that is written: the same elsewhere -/
theorem un_le {f f' : Nat → Nat} {i x : Nat} (h : ∀ j, f' j ≤ f j) (hx : x ≤ f i) : ∀ j, un f' i x j ≤ f j := fun j => by
  by_cases e : j = i
  · subst e; rw [un_same]; exact hx
  · rw [un_ne e]; exact h j
theorem bd_r {A B : Type} {o : Option A} {a : A} {k : A → Option B} (h : o = some a) : bd o k = k a := by rw [h]; rfl
theorem el_in {S R B : Type} (s : S) (k : S → Option B) (g : R → B) : el (.inl s) k g = k s := (fun (_ : True) => rfl) trivial
