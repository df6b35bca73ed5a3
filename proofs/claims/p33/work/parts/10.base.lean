/-! Worlds in groups: a list of groups of cells; a group goes through a call as a whole. -/
abbrev uG : Type := va_G × ClassId × ClassId × ClassId × ClassId
abbrev kT (G : uG) : List (ClassId × FieldType) := [(G.2.1, .int), (G.2.2.1, .boolean), (G.2.2.2.1, .object "SavingsCircle$State")]
abbrev kK (G : uG) (U : State) : Prop := va_K G.1 vwCl (kT G) U
def gP (G : uG) (gs : List va_W) (H : Heap) : Prop := va_P G.1 vwCl gs.flatten H
def gD (A : Nat → Prop) (gs : List va_W) : Prop := va_D A gs.flatten
def gA (gs : List va_W) (sz : Nat) : Nat → Prop := va_A gs.flatten sz
def gad (gs : List va_W) : List (List Nat) := gs.map (fun g => g.map Prod.fst)
/-- where a group begins in the flat list -/
def fo {α : Type} : List (List α) → Nat → Nat
  | [], _ => 0
  | _ :: _, 0 => 0
  | g :: gs, k + 1 => g.length + fo gs k
theorem fo_at {α : Type} : ∀ (gs : List (List α)) (k q : Nat) (g : List α) (x : α), gs[k]? = some g → g[q]? = some x → gs.flatten[fo gs k + q]? = some x
  | [], k, q, g, x, h, _ => by simp at h
  | g0 :: gs, 0, q, g, x, h, hx => by
    have h : g0 = g := by simpa using h
    subst h
    have hl : q < g0.length := (List.getElem?_eq_some_iff.mp hx).1
    rw [List.flatten_cons, show fo (g0 :: gs) 0 + q = q from Nat.zero_add q, List.getElem?_append_left hl]
    exact hx
  | g0 :: gs, k + 1, q, g, x, h, hx => by
    have h : gs[k]? = some g := by simpa using h
    have h1 := fo_at gs k q g x h hx
    rw [List.flatten_cons, show fo (g0 :: gs) (k + 1) + q = g0.length + (fo gs k + q) from Nat.add_assoc _ _ _, List.getElem?_append_right (by omega), Nat.add_sub_cancel_left]
    exact h1
theorem fo_set {α : Type} : ∀ (gs : List (List α)) (k q : Nat) (g : List α) (x : α), gs[k]? = some g → g[q]? = some x → ∀ y, gs.flatten.set (fo gs k + q) y = (gs.set k (g.set q y)).flatten
  | [], k, q, g, x, h, _ => by simp at h
  | g0 :: gs, 0, q, g, x, h, hx => by
    intro y
    have h : g0 = g := by simpa using h
    subst h
    have hl : q < g0.length := (List.getElem?_eq_some_iff.mp hx).1
    rw [List.flatten_cons, show fo (g0 :: gs) 0 + q = q from Nat.zero_add q, List.set_append_left _ _ hl]
    rfl
  | g0 :: gs, k + 1, q, g, x, h, hx => by
    intro y
    have h : gs[k]? = some g := by simpa using h
    have h1 := fo_set gs k q g x h hx y
    rw [List.flatten_cons, show fo (g0 :: gs) (k + 1) + q = g0.length + (fo gs k + q) from Nat.add_assoc _ _ _, List.set_append_right _ _ (by omega), Nat.add_sub_cancel_left, h1]
    rfl
theorem fo_inv {α : Type} : ∀ (gs : List (List α)) (p : Nat) (x : α), gs.flatten[p]? = some x → ∃ (k : Nat) (g : List α) (q : Nat), gs[k]? = some g ∧ g[q]? = some x ∧ p = fo gs k + q
  | [], p, x, h => by simp at h
  | g0 :: gs, p, x, h => by
    rw [List.flatten_cons] at h
    by_cases hl : p < g0.length
    · rw [List.getElem?_append_left hl] at h
      exact ⟨0, g0, p, rfl, h, (Nat.zero_add p).symm⟩
    · rw [List.getElem?_append_right (by omega)] at h
      obtain ⟨k, g, q, h1, h2, h3⟩ := fo_inv gs _ x h
      exact ⟨k + 1, g, q, by simpa using h1, h2, by show p = g0.length + fo gs k + q; omega⟩
theorem fo_inj {α : Type} : ∀ (gs : List (List α)) (k1 k2 q1 q2 : Nat) (g1 g2 : List α), gs[k1]? = some g1 → gs[k2]? = some g2 → q1 < g1.length → q2 < g2.length → fo gs k1 + q1 = fo gs k2 + q2 → k1 = k2 ∧ q1 = q2
  | [], k1, k2, q1, q2, g1, g2, h, _, _, _, _ => by simp at h
  | g0 :: gs, 0, 0, q1, q2, g1, g2, _, _, _, _, he => ⟨rfl, by have he : 0 + q1 = 0 + q2 := he; omega⟩
  | g0 :: gs, 0, k2 + 1, q1, q2, g1, g2, h1, _, l1, _, he => by
    have h1 : g0 = g1 := by simpa using h1
    subst h1
    have he : 0 + q1 = g0.length + fo gs k2 + q2 := he
    omega
  | g0 :: gs, k1 + 1, 0, q1, q2, g1, g2, _, h2, _, l2, he => by
    have h2 : g0 = g2 := by simpa using h2
    subst h2
    have he : g0.length + fo gs k1 + q1 = 0 + q2 := he
    omega
  | g0 :: gs, k1 + 1, k2 + 1, q1, q2, g1, g2, h1, h2, l1, l2, he => by
    have he : g0.length + fo gs k1 + q1 = g0.length + fo gs k2 + q2 := he
    obtain ⟨e1, e2⟩ := fo_inj gs k1 k2 q1 q2 g1 g2 (by simpa using h1) (by simpa using h2) l1 l2 (by omega)
    exact ⟨by omega, e2⟩
theorem pl_at {α : Type} {is : List Nat} {gs gc : List α} (hC : is.map (fun i => gs[i]?) = gc.map some) {k : Nat} {g : α} (h : gc[k]? = some g) : ∃ i, is[k]? = some i ∧ gs[i]? = some g := by
  have h1 : (is.map (fun i => gs[i]?))[k]? = some (some g) := by rw [hC, List.getElem?_map, h]; rfl
  rw [List.getElem?_map] at h1
  cases hi : is[k]? with
  | none => rw [hi] at h1; cases h1
  | some i => rw [hi] at h1; exact ⟨i, rfl, Option.some.inj h1⟩
theorem gP_at {G : uG} {gs : List va_W} {H : Heap} (hP : gP G gs H) {k : Nat} {g : va_W} (hg : gs[k]? = some g) : va_P G.1 vwCl g H := fun q x hx => hP _ _ (fo_at gs k q g x hg hx)
theorem gP_of {G : uG} {gs : List va_W} {H : Heap} (h : ∀ (k : Nat) (g : va_W), gs[k]? = some g → va_P G.1 vwCl g H) : gP G gs H := fun p x hx => by
  obtain ⟨k, g, q, h1, h2, -⟩ := fo_inv gs p x hx
  exact h k g h1 q x h2
theorem gD_inj {A : Nat → Prop} {gs : List va_W} (hD : gD A gs) {k1 k2 q1 q2 : Nat} {g1 g2 : va_W} {x1 x2 : Nat × va_E} (h1 : gs[k1]? = some g1) (h2 : gs[k2]? = some g2) (e1 : g1[q1]? = some x1) (e2 : g2[q2]? = some x2) (he : x1.1 = x2.1) : k1 = k2 ∧ q1 = q2 :=
  fo_inj gs k1 k2 q1 q2 g1 g2 h1 h2 (List.getElem?_eq_some_iff.mp e1).1 (List.getElem?_eq_some_iff.mp e2).1 (hD.1 _ _ _ _ (fo_at gs k1 q1 g1 x1 h1 e1) (fo_at gs k2 q2 g2 x2 h2 e2) he)
theorem gD_A {A : Nat → Prop} {gs : List va_W} (hD : gD A gs) {k q : Nat} {g : va_W} {x : Nat × va_E} (h : gs[k]? = some g) (e : g[q]? = some x) : A x.1 := hD.2 _ _ (fo_at gs k q g x h e)
theorem gD_of {A : Nat → Prop} {gs : List va_W} (hi : ∀ (k1 k2 q1 q2 : Nat) (g1 g2 : va_W) (x1 x2 : Nat × va_E), gs[k1]? = some g1 → gs[k2]? = some g2 → g1[q1]? = some x1 → g2[q2]? = some x2 → x1.1 = x2.1 → k1 = k2 ∧ q1 = q2) (hA : ∀ (k q : Nat) (g : va_W) (x : Nat × va_E), gs[k]? = some g → g[q]? = some x → A x.1) : gD A gs := by
  refine ⟨fun i j x y hx hy he => ?_, fun i x hx => ?_⟩
  · obtain ⟨k1, g1, q1, a1, b1, rfl⟩ := fo_inv gs i x hx
    obtain ⟨k2, g2, q2, a2, b2, rfl⟩ := fo_inv gs j y hy
    obtain ⟨rfl, rfl⟩ := hi k1 k2 q1 q2 g1 g2 x y a1 a2 b1 b2 he
    rfl
  · obtain ⟨k1, g1, q1, a1, b1, -⟩ := fo_inv gs i x hx
    exact hA k1 q1 g1 x a1 b1
theorem vaD_adr {A : Nat → Prop} {ws ws' : va_W} (h : ws'.map Prod.fst = ws.map Prod.fst) (hD : va_D A ws) : va_D A ws' := by
  have key : ∀ (i : Nat) (x : Nat × va_E), ws'[i]? = some x → ∃ y, ws[i]? = some y ∧ y.1 = x.1 := by
    intro i x hx
    have h1 : (ws.map Prod.fst)[i]? = some x.1 := by rw [← h, List.getElem?_map, hx]; rfl
    rw [List.getElem?_map] at h1
    cases hy : ws[i]? with
    | none => rw [hy] at h1; cases h1
    | some y => rw [hy] at h1; exact ⟨y, rfl, Option.some.inj h1⟩
  refine ⟨fun i j x y hx hy he => ?_, fun i x hx => ?_⟩
  · obtain ⟨x', a1, b1⟩ := key i x hx
    obtain ⟨y', a2, b2⟩ := key j y hy
    exact hD.1 i j x' y' a1 a2 (by rw [b1, b2, he])
  · obtain ⟨x', a1, b1⟩ := key i x hx
    rw [← b1]
    exact hD.2 i x' a1
theorem gD_adr {A : Nat → Prop} {gs gs' : List va_W} (h : gad gs' = gad gs) (hD : gD A gs) : gD A gs' := by
  refine vaD_adr ?_ hD
  rw [List.map_flatten, List.map_flatten]
  exact congrArg List.flatten h
theorem gP_sub {G : uG} {gs gc : List va_W} {H : Heap} (hP : gP G gs H) {is : List Nat} (hC : is.map (fun i => gs[i]?) = gc.map some) : gP G gc H := gP_of fun k g hk => by
  obtain ⟨i, -, h2⟩ := pl_at hC hk
  exact gP_at hP h2
theorem gD_sub {A : Nat → Prop} {gs gc : List va_W} (hD : gD A gs) {is : List Nat} (hn : va_nd is = true) (hC : is.map (fun i => gs[i]?) = gc.map some) : gD A gc := by
  refine gD_of (fun k1 k2 q1 q2 g1 g2 x1 x2 h1 h2 e1 e2 he => ?_) (fun k q g x h e => ?_)
  · obtain ⟨i1, a1, b1⟩ := pl_at hC h1
    obtain ⟨i2, a2, b2⟩ := pl_at hC h2
    obtain ⟨rfl, h9⟩ := gD_inj hD b1 b2 e1 e2 he
    exact ⟨va_nd_inj is hn k1 k2 i1 a1 a2, h9⟩
  · obtain ⟨i, -, b⟩ := pl_at hC h
    exact gD_A hD b e
theorem gA_in {gs : List va_W} {sz k q : Nat} {g : va_W} {x : Nat × va_E} (h : gs[k]? = some g) (e : g[q]? = some x) : gA gs sz x.1 := Or.inl ⟨_, x.2, fo_at gs k q g x h e⟩
theorem gD_T {A : Nat → Prop} {gs : List va_W} (h : gD A gs) : gD (fun _ => True) gs := h.weaken (fun _ _ _ _ => trivial)
theorem g_free {A0 : Nat → Prop} {gs gc : List va_W} {H0 H : Heap} {locs : List Loc} (hD : gD A0 gs) (hS : va_S A0 H0 H locs) (hA : ∀ q, H0.size ≤ q → A0 q) {is : List Nat} (hC : is.map (fun i => gs[i]?) = gc.map some) : ∀ q, gA gc H.size q → A0 q := by
  intro q h
  rcases h with ⟨k, e, h⟩ | h
  · obtain ⟨k1, g1, q1, a1, b1, -⟩ := fo_inv gc k (q, e) h
    obtain ⟨i, -, b⟩ := pl_at hC a1
    exact gD_A hD b b1
  · exact hA q (Nat.le_trans hS.1 h)
/-- the groups at the places is, put anew -/
def gset : List va_W → List Nat → List va_W → List va_W
  | gs, i :: is, g :: g1 => gset (gs.set i g) is g1
  | gs, _, _ => gs
theorem gset_get : ∀ (is : List Nat) (gs g1 : List va_W) (k : Nat) (g : va_W), va_nd is = true → is.length = g1.length → (∀ i ∈ is, i < gs.length) → (gset gs is g1)[k]? = some g → (∃ j : Nat, is[j]? = some k ∧ g1[j]? = some g) ∨ (k ∉ is ∧ gs[k]? = some g)
  | [], gs, g1, k, g, _, _, _, h => Or.inr ⟨List.not_mem_nil, by simpa [gset] using h⟩
  | i :: is, gs, [], k, g, _, hl, _, _ => by simp at hl
  | i :: is, gs, g0 :: g1, k, g, hn, hl, hi, h => by
    simp only [va_nd, Bool.and_eq_true, decide_eq_true_eq] at hn
    have h : (gset (gs.set i g0) is g1)[k]? = some g := h
    rcases gset_get is (gs.set i g0) g1 k g hn.2 (by simpa using hl) (fun j hj => by rw [List.length_set]; exact hi j (List.mem_cons_of_mem _ hj)) h with ⟨j, h1, h2⟩ | ⟨h1, h2⟩
    · exact Or.inl ⟨j + 1, by simpa using h1, by simpa using h2⟩
    · by_cases hk : k = i
      · subst hk
        have hlt := hi k List.mem_cons_self
        rw [List.getElem?_set_self hlt] at h2
        exact Or.inl ⟨0, rfl, by simpa using h2⟩
      · rw [List.getElem?_set_ne (fun q => hk q.symm)] at h2
        exact Or.inr ⟨fun q => (List.mem_cons.mp q).elim hk h1, h2⟩
theorem gset_adr : ∀ (is : List Nat) (gs g1 : List va_W), va_nd is = true → (∀ (j i : Nat) (g' : va_W), is[j]? = some i → g1[j]? = some g' → ∃ g, gs[i]? = some g ∧ g'.map Prod.fst = g.map Prod.fst) → gad (gset gs is g1) = gad gs
  | [], gs, g1, _, _ => by simp [gset]
  | i :: is, gs, [], _, _ => rfl
  | i :: is, gs, g0 :: g1, hn, h => by
    simp only [va_nd, Bool.and_eq_true, decide_eq_true_eq] at hn
    obtain ⟨g, h1, h2⟩ := h 0 i g0 rfl rfl
    have e0 : gad (gs.set i g0) = gad gs := by
      unfold gad
      rw [List.map_set, h2]
      refine List.ext_getElem? fun j => ?_
      rw [List.getElem?_set]
      by_cases hj : i = j
      · subst hj
        have hlt : i < gs.length := (List.getElem?_eq_some_iff.mp h1).1
        have h3 : gs[i] = g := by
          rw [List.getElem?_eq_getElem hlt] at h1
          exact Option.some.inj h1
        simp [hlt, h3]
      · rw [if_neg hj]
    rw [← e0]
    refine gset_adr is (gs.set i g0) g1 hn.2 fun j i2 g' e1 e2 => ?_
    obtain ⟨g2, f1, f2⟩ := h (j + 1) i2 g' (by simpa using e1) (by simpa using e2)
    have hne : i ≠ i2 := fun q => hn.1 (by rw [q]; exact List.mem_of_getElem? e1)
    exact ⟨g2, by rw [List.getElem?_set_ne hne]; exact f1, f2⟩
theorem gad_len {gs gs' : List va_W} (h : gad gs' = gad gs) : gs'.length = gs.length := by
  have := congrArg List.length h
  simpa [gad] using this
theorem gad_at {gs gs' : List va_W} (h : gad gs' = gad gs) {j : Nat} {g' : va_W} (hj : gs'[j]? = some g') : ∃ g, gs[j]? = some g ∧ g'.map Prod.fst = g.map Prod.fst := by
  have h1 : (gad gs)[j]? = some (g'.map Prod.fst) := by rw [← h, gad, List.getElem?_map, hj]; rfl
  rw [gad, List.getElem?_map] at h1
  cases hy : gs[j]? with
  | none => rw [hy] at h1; cases h1
  | some y => rw [hy] at h1; exact ⟨y, rfl, (Option.some.inj h1).symm⟩
/-- behind a call: the groups that went in, put anew; the others as they were -/
theorem gjoin {G : uG} {A0 : Nat → Prop} {gs gc gc' : List va_W} {H H1 : Heap} (hP : gP G gs H) (hD : gD A0 gs) {is : List Nat} (hn : va_nd is = true) (hC : is.map (fun i => gs[i]?) = gc.map some) (hk : ∀ q : Nat, q < H.size → ¬ gA gc H.size q → H1[q]? = H[q]?) (hP1 : gP G gc' H1) (hadr : gad gc' = gad gc) : gP G (gset gs is gc') H1 ∧ gD A0 (gset gs is gc') := by
  have hlen : is.length = gc'.length := by
    have h1 := congrArg List.length hC
    rw [List.length_map, List.length_map] at h1
    rw [h1, gad_len hadr]
  have hin : ∀ i ∈ is, i < gs.length := by
    intro i hi
    obtain ⟨j, hj⟩ := List.getElem?_of_mem hi
    have h1 : (gc.map some)[j]? = some (gs[i]?) := by rw [← hC, List.getElem?_map, hj]; rfl
    rw [List.getElem?_map] at h1
    cases hg : gc[j]? with
    | none => rw [hg] at h1; cases h1
    | some g =>
      rw [hg] at h1
      have h2 : gs[i]? = some g := (Option.some.inj h1).symm
      exact (List.getElem?_eq_some_iff.mp h2).1
  refine ⟨gP_of fun k g hg => ?_, gD_adr (gset_adr is gs gc' hn fun j i g' e1 e2 => ?_) hD⟩
  · rcases gset_get is gs gc' k g hn hlen hin hg with ⟨j, h1, h2⟩ | ⟨h1, h2⟩
    · exact gP_at hP1 h2
    · intro q x hx
      have hv := gP_at hP h2 q x hx
      refine hv.kept (hk x.1 hv.lt fun ha => ?_)
      rcases ha with ⟨p, e, hp⟩ | ha
      · obtain ⟨k1, g1, q1, a1, b1, -⟩ := fo_inv gc p (x.1, e) hp
        obtain ⟨i, c1, c2⟩ := pl_at hC a1
        obtain ⟨rfl, -⟩ := gD_inj hD h2 c2 hx b1 rfl
        exact h1 (List.mem_of_getElem? c1)
      · exact absurd hv.lt (Nat.not_lt.mpr ha)
  · obtain ⟨g0, f1, f2⟩ := gad_at hadr e2
    obtain ⟨i2, c1, c2⟩ := pl_at hC f1
    cases e1.symm.trans c1
    exact ⟨g0, c2, f2⟩
/-! the pure side of a walk: a method is a function that says none where the machine would throw by itself -/
theorem lt_some {α β : Type} {e : α} {k : α → Option β} {r : β} (h : lt e k = some r) : ∃ y, y = e ∧ k y = some r := ⟨e, rfl, h⟩
theorem bd_some {α β : Type} {o : Option α} {k : α → Option β} {r : β} (h : bd o k = some r) : ∃ a, o = some a ∧ k a = some r := by
  cases o with
  | none => cases h
  | some a => exact ⟨a, rfl, h⟩
theorem gi_some {β : Type} {i : Int32} {n : Nat} {k : Option β} {r : β} (h : gi i n k = some r) : vp_in i n ∧ k = some r := by
  unfold gi at h
  split at h
  · cases h
  · exact ⟨by assumption, h⟩
theorem gz_some {β : Type} {y : Int32} {k : Option β} {r : β} (h : gz y k = some r) : ¬ y = 0 ∧ k = some r := by
  unfold gz at h
  split at h
  · cases h
  · exact ⟨by assumption, h⟩
theorem gzl_some {β : Type} {y : Int64} {k : Option β} {r : β} (h : gzl y k = some r) : ¬ y = 0 ∧ k = some r := by
  unfold gzl at h
  split at h
  · cases h
  · exact ⟨by assumption, h⟩
theorem gnan_some {β : Type} {y : UInt32} {k : Option β} {r : β} (h : gnan y k = some r) : vf_n32 y ∧ k = some r := by
  unfold gnan at h
  split at h
  · exact ⟨by assumption, h⟩
  · cases h
theorem gb_some {β : Type} {x : Int32} {k : Option β} {r : β} (h : gb x k = some r) : narrow .boolean (.int x) = .int x ∧ k = some r := by
  unfold gb at h
  split at h
  · rename_i h1
    exact ⟨by rw [show narrow .boolean (.int x) = .int (vp_nar .boolean x) from rfl, h1], h⟩
  · cases h
theorem lz_l {S E : Type} {b : S → Option (S ⊕ E)} {n : Nat} {e : E} {s : S} {z : S ⊕ E} (h : some (Sum.inl s) = some z) (hz : lz b n e z) : lp b n s = some e := by
  cases h
  exact hz
theorem lz_r {S E : Type} {b : S → Option (S ⊕ E)} {n : Nat} {e e' : E} {z : S ⊕ E} (h : some (Sum.inr e') = some z) (hz : lz b n e z) : e' = e := by
  cases h
  exact hz
theorem el_h {S R B : Type} {s : S} {k : S → Option B} {g : R → B} {r : B} (h : el (.inl s) k g = some r) : k s = some r := h
theorem gz0 : narrow .boolean (.int (0:Int32)) = .int (0:Int32) := by decide
theorem gz1 : narrow .boolean (.int (1:Int32)) = .int (1:Int32) := by decide
