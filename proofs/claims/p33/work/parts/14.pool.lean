/-! the past's pool of fourteen states, taken apart for a call; the slots -/
theorem pa_lt {i : Int32} {n : Nat} (h : vp_in i n) : i.toNatClampNeg < n := Nat.not_le.mp fun q => h (Or.inr q)
theorem pa_flat {G : uG} {a : Nat → Nat → Nat} {v : PaV} {g1 : va_W} : [paW G a v, g1].flatten = (paO G a v :: (paS G a (Pa_states v) ++ [g1])).flatten := by
  simp [paW, List.append_assoc]
theorem gP_pa {G : uG} {a : Nat → Nat → Nat} {v : PaV} {g1 : va_W} {H : Heap} : gP G [paW G a v, g1] H = gP G (paO G a v :: (paS G a (Pa_states v) ++ [g1])) H := by
  unfold gP
  rw [pa_flat]
theorem gD_pa {G : uG} {A : Nat → Prop} {a : Nat → Nat → Nat} {v : PaV} {g1 : va_W} : gD A [paW G a v, g1] = gD A (paO G a v :: (paS G a (Pa_states v) ++ [g1])) := by
  unfold gD
  rw [pa_flat]
theorem paS_len {G : uG} {a : Nat → Nat → Nat} {f : Nat → StV} : (paS G a f).length = 14 := by simp [paS]
theorem paS_at {G : uG} {a : Nat → Nat → Nat} {f : Nat → StV} {k : Nat} (h : k < 14) : (paS G a f)[k]? = some (stW G (a (k + 1)) (f k)) := by
  simp [paS, h]
theorem pa_at {G : uG} {a : Nat → Nat → Nat} {f : Nat → StV} {o g1 : va_W} {k : Nat} (h : k < 14) : (o :: (paS G a f ++ [g1]))[k + 1]? = some (stW G (a (k + 1)) (f k)) := by
  rw [List.getElem?_cons_succ, List.getElem?_append_left (by rw [paS_len]; exact h)]
  exact paS_at h
theorem pa_at15 {G : uG} {a : Nat → Nat → Nat} {f : Nat → StV} {o g1 : va_W} : (o :: (paS G a f ++ [g1]))[15]? = some g1 := by
  rw [show (15 : Nat) = 14 + 1 from rfl, List.getElem?_cons_succ, List.getElem?_append_right (by rw [paS_len]; exact Nat.le_refl _), paS_len]
  rfl
theorem pa_hC1 {G : uG} {a : Nat → Nat → Nat} {f : Nat → StV} {o g1 : va_W} {k : Nat} (h : k < 14) : [k + 1, 15].map (fun i => (o :: (paS G a f ++ [g1]))[i]?) = [stW G (a (k + 1)) (f k), g1].map some := by
  simp only [List.map_cons, List.map_nil, pa_at h, pa_at15]
theorem pa_hC2 {G : uG} {a : Nat → Nat → Nat} {f : Nat → StV} {o g1 : va_W} {k : Nat} (h : k < 14) : [15, k + 1].map (fun i => (o :: (paS G a f ++ [g1]))[i]?) = [g1, stW G (a (k + 1)) (f k)].map some := by
  simp only [List.map_cons, List.map_nil, pa_at h, pa_at15]
theorem pa_nd1 {k : Nat} (h : k < 14) : va_nd [k + 1, 15] = true := by
  have h1 : ¬ k + 1 = 15 := by omega
  simp [va_nd]
  omega
theorem pa_nd2 {k : Nat} (h : k < 14) : va_nd [15, k + 1] = true := by
  simp [va_nd]
  omega
theorem paS_set {G : uG} {a : Nat → Nat → Nat} {f : Nat → StV} {k : Nat} {w : StV} : (paS G a f).set k (stW G (a (k + 1)) w) = paS G a (upS f k w) := by
  refine List.ext_getElem? fun j => ?_
  rw [List.getElem?_set]
  by_cases hj : k = j
  · subst hj
    rw [if_pos rfl]
    by_cases hk : k < 14
    · rw [if_pos (by rw [paS_len]; exact hk), paS_at hk]
      simp [upS]
    · rw [if_neg (by rw [paS_len]; exact hk)]
      exact (List.getElem?_eq_none (by rw [paS_len]; omega)).symm
  · rw [if_neg hj]
    by_cases hk : j < 14
    · rw [paS_at hk, paS_at hk]
      simp [upS, Ne.symm hj]
    · rw [List.getElem?_eq_none (by rw [paS_len]; omega), List.getElem?_eq_none (by rw [paS_len]; omega)]
theorem pa_set1 {G : uG} {a : Nat → Nat → Nat} {f : Nat → StV} {o g1 : va_W} {k : Nat} {w : StV} (h : k < 14) {g2 : va_W} : gset (o :: (paS G a f ++ [g1])) [k + 1, 15] [stW G (a (k + 1)) w, g2] = o :: (paS G a (upS f k w) ++ [g2]) := by
  show ((o :: (paS G a f ++ [g1])).set (k + 1) (stW G (a (k + 1)) w)).set 15 g2 = _
  rw [List.set_cons_succ, List.set_append_left _ _ (by rw [paS_len]; exact h), paS_set, show (15 : Nat) = 14 + 1 from rfl, List.set_cons_succ, List.set_append_right _ _ (by rw [paS_len]; exact Nat.le_refl _), paS_len]
  rfl
theorem pa_set2 {G : uG} {a : Nat → Nat → Nat} {f : Nat → StV} {o g1 : va_W} {k : Nat} (h : k < 14) {g2 : va_W} : gset (o :: (paS G a f ++ [g1])) [15, k + 1] [g2, stW G (a (k + 1)) (f k)] = o :: (paS G a f ++ [g2]) := by
  show ((o :: (paS G a f ++ [g1])).set 15 g2).set (k + 1) (stW G (a (k + 1)) (f k)) = _
  rw [show (15 : Nat) = 14 + 1 from rfl, List.set_cons_succ, List.set_append_right _ _ (by rw [paS_len]; exact Nat.le_refl _), paS_len, List.set_cons_succ, List.set_append_left _ _ (by rw [paS_len]; exact h), paS_set]
  have e : upS f k (f k) = f := by
    funext j
    unfold upS
    by_cases hj : j = k
    · rw [if_pos hj, hj]
    · rw [if_neg hj]
  rw [e]
  rfl
section PRows
variable {p : Program} {l : Launch} {e : Env} {R : Room} {s : State} {m : MethodId} {args : Array Value} {below : List Frame} {meth : Method} {c : Code} {H : Heap} {locs : List Loc} {cells slots : Nat} {Q : State → Prop}
variable {cc : ByteArray} {pc : Nat} {ls : Array Slot} {rest : List Value} {G : uG} {gs : List va_W}
theorem g_aldPa (hexec : p.tables.exec = Jvm.exec) (hb : c.code = cc) (hK : kK G s) (hP : gP G gs H) (k0 : Nat) {a : Nat → Nat → Nat} {v : PaV} (hg : gs[k0]? = some (paW G a v)) {i : Int32} (hin : vp_in i 14) (hdg : decode cc pc = .ok (.aaload, 1))
    (kk : W p l e R s m args below meth c H locs cells slots Q (F0 m (pc + 1) ls (.ref (a (i.toNatClampNeg + 1) 0) :: rest))) : W p l e R s m args below meth c H locs cells slots Q (F0 m pc ls (.int i :: .ref (a 0 1) :: rest)) :=
  va_aldq hexec hb hK (gP_at hP hg) 1 2 rfl rfl hin hdg kk
theorem g_aldSl (hexec : p.tables.exec = Jvm.exec) (hb : c.code = cc) (hK : kK G s) (hP : gP G gs H) (k0 : Nat) {a : Nat → Nat} {x0 x1 : Nat} {v : SlV} (hg : gs[k0]? = some (slW G a x0 x1 v)) {i : Int32} (hin : vp_in i 2) (hdg : decode cc pc = .ok (.aaload, 1))
    (k0 : i.toNatClampNeg = 0 → W p l e R s m args below meth c H locs cells slots Q (F0 m (pc + 1) ls (.ref x0 :: rest))) (k1 : ¬ i.toNatClampNeg = 0 → W p l e R s m args below meth c H locs cells slots Q (F0 m (pc + 1) ls (.ref x1 :: rest))) : W p l e R s m args below meth c H locs cells slots Q (F0 m pc ls (.int i :: .ref (a 0) :: rest)) := by
  refine va_aldq hexec hb hK (gP_at hP hg) 0 2 rfl rfl hin hdg ?_
  by_cases h : i.toNatClampNeg = 0
  · rw [if_pos h]; exact k0 h
  · rw [if_neg h]; exact k1 h
end PRows
