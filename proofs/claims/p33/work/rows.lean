section
/-! the definitions of the pure side, taken out of the parts of the walks -/
def lt {α β : Type} (e : α) (k : α → β) : β := k e
def bd {α β : Type} (o : Option α) (k : α → Option β) : Option β := match o with
  | none => none
  | some a => k a
def gi {β : Type} (i : Int32) (n : Nat) (k : Option β) : Option β := if i < 0 ∨ n ≤ i.toNatClampNeg then none else k
def gz {β : Type} (y : Int32) (k : Option β) : Option β := if y = 0 then none else k
def gzl {β : Type} (y : Int64) (k : Option β) : Option β := if y = 0 then none else k
def gnan {β : Type} (r : UInt32) (k : Option β) : Option β := if r &&& 0x7fffffff ≤ 0x7f800000 then k else none
def gb {β : Type} (x : Int32) (k : Option β) : Option β := if vp_nar .boolean x = x then k else none
def lp {S E : Type} (b : S → Option (S ⊕ E)) : Nat → S → Option E
  | 0, _ => none
  | n + 1, s => match b s with
    | none => none
    | some (.inl s') => lp b n s'
    | some (.inr e) => some e
def lz {S E : Type} (b : S → Option (S ⊕ E)) (n : Nat) (e : E) : S ⊕ E → Prop
  | .inl s' => lp b n s' = some e
  | .inr e' => e' = e
theorem lp_s {S E : Type} {b : S → Option (S ⊕ E)} {n : Nat} {s : S} {e : E} (h : lp b (n + 1) s = some e) : ∃ z, b s = some z ∧ lz b n e z := by
  unfold lp at h
  split at h
  · cases h
  · rename_i s' hs
    exact ⟨_, hs, h⟩
  · rename_i e' he
    exact ⟨_, he, Option.some.inj h⟩
def el {S R B : Type} (e : S ⊕ R) (k : S → Option B) (g : R → B) : Option B := match e with
  | .inl s => k s
  | .inr r => some (g r)
/-- far more turns than any loop takes -/
def FU : Nat := 1000000
abbrev StV : Type := Int32 × Int32 × Int32 × Int32 × Int32 × (Nat → Int32) × (Nat → Int32) × (Nat → Int32) × (Nat → Int32) × (Nat → Int32) × (Nat → Int32) × (Nat → Int32) × (Nat → Int32) × (Nat → Int32) × (Nat → Int32) × (Nat → Int32) × (Nat → Int32)
abbrev St_count (v : StV) : Int32 := v.1
abbrev St_month (v : StV) : Int32 := v.2.1
abbrev St_contribution (v : StV) : Int32 := v.2.2.1
abbrev St_box (v : StV) : Int32 := v.2.2.2.1
abbrev St_given (v : StV) : Int32 := v.2.2.2.2.1
abbrev St_purse (v : StV) : Nat → Int32 := v.2.2.2.2.2.1
abbrev St_guarantor (v : StV) : Nat → Int32 := v.2.2.2.2.2.2.1
abbrev St_bid (v : StV) : Nat → Int32 := v.2.2.2.2.2.2.2.1
abbrev St_away (v : StV) : Nat → Int32 := v.2.2.2.2.2.2.2.2.1
abbrev St_taken (v : StV) : Nat → Int32 := v.2.2.2.2.2.2.2.2.2.1
abbrev St_inside (v : StV) : Nat → Int32 := v.2.2.2.2.2.2.2.2.2.2.1
abbrev St_paidForItself (v : StV) : Nat → Int32 := v.2.2.2.2.2.2.2.2.2.2.2.1
abbrev St_paidForOthers (v : StV) : Nat → Int32 := v.2.2.2.2.2.2.2.2.2.2.2.2.1
abbrev St_gotOfPot (v : StV) : Nat → Int32 := v.2.2.2.2.2.2.2.2.2.2.2.2.2.1
abbrev St_shares (v : StV) : Nat → Int32 := v.2.2.2.2.2.2.2.2.2.2.2.2.2.2.1
abbrev St_misses (v : StV) : Nat → Int32 := v.2.2.2.2.2.2.2.2.2.2.2.2.2.2.2.1
abbrev St_debt (v : StV) : Nat → Int32 := v.2.2.2.2.2.2.2.2.2.2.2.2.2.2.2.2
abbrev St_count_s (v : StV) (x : Int32) : StV := (x, v.2)
abbrev St_month_s (v : StV) (x : Int32) : StV := (v.1, x, v.2.2)
abbrev St_contribution_s (v : StV) (x : Int32) : StV := (v.1, v.2.1, x, v.2.2.2)
abbrev St_box_s (v : StV) (x : Int32) : StV := (v.1, v.2.1, v.2.2.1, x, v.2.2.2.2)
abbrev St_given_s (v : StV) (x : Int32) : StV := (v.1, v.2.1, v.2.2.1, v.2.2.2.1, x, v.2.2.2.2.2)
abbrev St_purse_s (v : StV) (x : Nat → Int32) : StV := (v.1, v.2.1, v.2.2.1, v.2.2.2.1, v.2.2.2.2.1, x, v.2.2.2.2.2.2)
abbrev St_guarantor_s (v : StV) (x : Nat → Int32) : StV := (v.1, v.2.1, v.2.2.1, v.2.2.2.1, v.2.2.2.2.1, v.2.2.2.2.2.1, x, v.2.2.2.2.2.2.2)
abbrev St_bid_s (v : StV) (x : Nat → Int32) : StV := (v.1, v.2.1, v.2.2.1, v.2.2.2.1, v.2.2.2.2.1, v.2.2.2.2.2.1, v.2.2.2.2.2.2.1, x, v.2.2.2.2.2.2.2.2)
abbrev St_away_s (v : StV) (x : Nat → Int32) : StV := (v.1, v.2.1, v.2.2.1, v.2.2.2.1, v.2.2.2.2.1, v.2.2.2.2.2.1, v.2.2.2.2.2.2.1, v.2.2.2.2.2.2.2.1, x, v.2.2.2.2.2.2.2.2.2)
abbrev St_taken_s (v : StV) (x : Nat → Int32) : StV := (v.1, v.2.1, v.2.2.1, v.2.2.2.1, v.2.2.2.2.1, v.2.2.2.2.2.1, v.2.2.2.2.2.2.1, v.2.2.2.2.2.2.2.1, v.2.2.2.2.2.2.2.2.1, x, v.2.2.2.2.2.2.2.2.2.2)
abbrev St_inside_s (v : StV) (x : Nat → Int32) : StV := (v.1, v.2.1, v.2.2.1, v.2.2.2.1, v.2.2.2.2.1, v.2.2.2.2.2.1, v.2.2.2.2.2.2.1, v.2.2.2.2.2.2.2.1, v.2.2.2.2.2.2.2.2.1, v.2.2.2.2.2.2.2.2.2.1, x, v.2.2.2.2.2.2.2.2.2.2.2)
abbrev St_paidForItself_s (v : StV) (x : Nat → Int32) : StV := (v.1, v.2.1, v.2.2.1, v.2.2.2.1, v.2.2.2.2.1, v.2.2.2.2.2.1, v.2.2.2.2.2.2.1, v.2.2.2.2.2.2.2.1, v.2.2.2.2.2.2.2.2.1, v.2.2.2.2.2.2.2.2.2.1, v.2.2.2.2.2.2.2.2.2.2.1, x, v.2.2.2.2.2.2.2.2.2.2.2.2)
abbrev St_paidForOthers_s (v : StV) (x : Nat → Int32) : StV := (v.1, v.2.1, v.2.2.1, v.2.2.2.1, v.2.2.2.2.1, v.2.2.2.2.2.1, v.2.2.2.2.2.2.1, v.2.2.2.2.2.2.2.1, v.2.2.2.2.2.2.2.2.1, v.2.2.2.2.2.2.2.2.2.1, v.2.2.2.2.2.2.2.2.2.2.1, v.2.2.2.2.2.2.2.2.2.2.2.1, x, v.2.2.2.2.2.2.2.2.2.2.2.2.2)
abbrev St_gotOfPot_s (v : StV) (x : Nat → Int32) : StV := (v.1, v.2.1, v.2.2.1, v.2.2.2.1, v.2.2.2.2.1, v.2.2.2.2.2.1, v.2.2.2.2.2.2.1, v.2.2.2.2.2.2.2.1, v.2.2.2.2.2.2.2.2.1, v.2.2.2.2.2.2.2.2.2.1, v.2.2.2.2.2.2.2.2.2.2.1, v.2.2.2.2.2.2.2.2.2.2.2.1, v.2.2.2.2.2.2.2.2.2.2.2.2.1, x, v.2.2.2.2.2.2.2.2.2.2.2.2.2.2)
abbrev St_shares_s (v : StV) (x : Nat → Int32) : StV := (v.1, v.2.1, v.2.2.1, v.2.2.2.1, v.2.2.2.2.1, v.2.2.2.2.2.1, v.2.2.2.2.2.2.1, v.2.2.2.2.2.2.2.1, v.2.2.2.2.2.2.2.2.1, v.2.2.2.2.2.2.2.2.2.1, v.2.2.2.2.2.2.2.2.2.2.1, v.2.2.2.2.2.2.2.2.2.2.2.1, v.2.2.2.2.2.2.2.2.2.2.2.2.1, v.2.2.2.2.2.2.2.2.2.2.2.2.2.1, x, v.2.2.2.2.2.2.2.2.2.2.2.2.2.2.2)
abbrev St_misses_s (v : StV) (x : Nat → Int32) : StV := (v.1, v.2.1, v.2.2.1, v.2.2.2.1, v.2.2.2.2.1, v.2.2.2.2.2.1, v.2.2.2.2.2.2.1, v.2.2.2.2.2.2.2.1, v.2.2.2.2.2.2.2.2.1, v.2.2.2.2.2.2.2.2.2.1, v.2.2.2.2.2.2.2.2.2.2.1, v.2.2.2.2.2.2.2.2.2.2.2.1, v.2.2.2.2.2.2.2.2.2.2.2.2.1, v.2.2.2.2.2.2.2.2.2.2.2.2.2.1, v.2.2.2.2.2.2.2.2.2.2.2.2.2.2.1, x, v.2.2.2.2.2.2.2.2.2.2.2.2.2.2.2.2)
abbrev St_debt_s (v : StV) (x : Nat → Int32) : StV := (v.1, v.2.1, v.2.2.1, v.2.2.2.1, v.2.2.2.2.1, v.2.2.2.2.2.1, v.2.2.2.2.2.2.1, v.2.2.2.2.2.2.2.1, v.2.2.2.2.2.2.2.2.1, v.2.2.2.2.2.2.2.2.2.1, v.2.2.2.2.2.2.2.2.2.2.1, v.2.2.2.2.2.2.2.2.2.2.2.1, v.2.2.2.2.2.2.2.2.2.2.2.2.1, v.2.2.2.2.2.2.2.2.2.2.2.2.2.1, v.2.2.2.2.2.2.2.2.2.2.2.2.2.2.1, v.2.2.2.2.2.2.2.2.2.2.2.2.2.2.2.1, x)
abbrev RdV : Type := (Nat → Int32) × (Nat → Int32) × Int32
abbrev Rd_paid (v : RdV) : Nat → Int32 := v.1
abbrev Rd_missing (v : RdV) : Nat → Int32 := v.2.1
abbrev Rd_pence (v : RdV) : Int32 := v.2.2
abbrev Rd_paid_s (v : RdV) (x : Nat → Int32) : RdV := (x, v.2)
abbrev Rd_missing_s (v : RdV) (x : Nat → Int32) : RdV := (v.1, x, v.2.2)
abbrev Rd_pence_s (v : RdV) (x : Int32) : RdV := (v.1, v.2.1, x)
abbrev TxV : Type := (Nat → Int32) × Int32 × Int32
abbrev Tx_signs (v : TxV) : Nat → Int32 := v.1
abbrev Tx_length (v : TxV) : Int32 := v.2.1
abbrev Tx_at (v : TxV) : Int32 := v.2.2
abbrev Tx_signs_s (v : TxV) (x : Nat → Int32) : TxV := (x, v.2)
abbrev Tx_length_s (v : TxV) (x : Int32) : TxV := (v.1, x, v.2.2)
abbrev Tx_at_s (v : TxV) (x : Int32) : TxV := (v.1, v.2.1, x)
abbrev PaV : Type := Int32 × Int32 × (Nat → StV)
abbrev Pa_size (v : PaV) : Int32 := v.1
abbrev Pa_next (v : PaV) : Int32 := v.2.1
abbrev Pa_states (v : PaV) : Nat → StV := v.2.2
abbrev Pa_size_s (v : PaV) (x : Int32) : PaV := (x, v.2)
abbrev Pa_next_s (v : PaV) (x : Int32) : PaV := (v.1, x, v.2.2)
abbrev Pa_states_s (v : PaV) (x : Nat → StV) : PaV := (v.1, v.2.1, x)
abbrev SlV : Type := (Nat → Int32)
abbrev Sl_used (v : SlV) : Nat → Int32 := v
abbrev Sl_used_s (v : SlV) (x : Nat → Int32) : SlV := x
abbrev ArV : Type := (Nat → Int32)
abbrev Ar_row (v : ArV) : Nat → Int32 := v
abbrev Ar_row_s (v : ArV) (x : Nat → Int32) : ArV := x
def upS (f : Nat → StV) (k : Nat) (v : StV) : Nat → StV := fun j => if j = k then v else f j
def f_X3_pair (i0 : Int32) (i1 : Int32) : Option (Int32 × (Unit)) := some ((i0 * (8:Int32)) + i1, ())
def b_X3_copyFrom_42 (v1 : StV) (z : (Int32 × StV)) : Option ((Int32 × StV) ⊕ (Int32 × StV)) := (if (8:Int32) ≤ z.1 then some (.inr (z.1, z.2)) else gi z.1 8 (gi z.1 8 (lt (St_purse_s z.2 (upd (St_purse z.2) z.1.toNatClampNeg (St_purse v1 z.1.toNatClampNeg))) (fun (u9 : StV) => gi z.1 8 (gi z.1 8 (lt (St_guarantor_s u9 (upd (St_guarantor u9) z.1.toNatClampNeg (St_guarantor v1 z.1.toNatClampNeg))) (fun (u12 : StV) => gi z.1 8 (gi z.1 8 (lt (St_bid_s u12 (upd (St_bid u12) z.1.toNatClampNeg (St_bid v1 z.1.toNatClampNeg))) (fun (u15 : StV) => gi z.1 8 (gi z.1 8 (lt (St_away_s u15 (upd (St_away u15) z.1.toNatClampNeg (vp_nar .boolean (St_away v1 z.1.toNatClampNeg)))) (fun (u18 : StV) => gi z.1 8 (gi z.1 8 (lt (St_taken_s u18 (upd (St_taken u18) z.1.toNatClampNeg (vp_nar .boolean (St_taken v1 z.1.toNatClampNeg)))) (fun (u21 : StV) => gi z.1 8 (gi z.1 8 (lt (St_inside_s u21 (upd (St_inside u21) z.1.toNatClampNeg (vp_nar .boolean (St_inside v1 z.1.toNatClampNeg)))) (fun (u24 : StV) => gi z.1 8 (gi z.1 8 (lt (St_paidForItself_s u24 (upd (St_paidForItself u24) z.1.toNatClampNeg (St_paidForItself v1 z.1.toNatClampNeg))) (fun (u27 : StV) => gi z.1 8 (gi z.1 8 (lt (St_paidForOthers_s u27 (upd (St_paidForOthers u27) z.1.toNatClampNeg (St_paidForOthers v1 z.1.toNatClampNeg))) (fun (u30 : StV) => gi z.1 8 (gi z.1 8 (lt (St_gotOfPot_s u30 (upd (St_gotOfPot u30) z.1.toNatClampNeg (St_gotOfPot v1 z.1.toNatClampNeg))) (fun (u33 : StV) => gi z.1 8 (gi z.1 8 (lt (St_shares_s u33 (upd (St_shares u33) z.1.toNatClampNeg (St_shares v1 z.1.toNatClampNeg))) (fun (u36 : StV) => gi z.1 8 (gi z.1 8 (lt (St_misses_s u36 (upd (St_misses u36) z.1.toNatClampNeg (St_misses v1 z.1.toNatClampNeg))) (fun (u39 : StV) => lt (z.1 + (1:Int32)) (fun (x40 : Int32) => some (.inl (x40, u39)))))))))))))))))))))))))))))))))))))
def b_X3_copyFrom_188 (v1 : StV) (z : (Int32 × StV)) : Option ((Int32 × StV) ⊕ (Int32 × StV)) := (if (64:Int32) ≤ z.1 then some (.inr (z.1, z.2)) else gi z.1 64 (gi z.1 64 (lt (St_debt_s z.2 (upd (St_debt z.2) z.1.toNatClampNeg (St_debt v1 z.1.toNatClampNeg))) (fun (u45 : StV) => lt (z.1 + (1:Int32)) (fun (x46 : Int32) => some (.inl (x46, u45)))))))
def f_X3_copyFrom (v0 : StV) (v1 : StV) : Option (Unit × (StV)) := lt (St_count_s v0 (St_count v1)) (fun (u1 : StV) => lt (St_month_s u1 (St_month v1)) (fun (u2 : StV) => lt (St_contribution_s u2 (St_contribution v1)) (fun (u3 : StV) => lt (St_box_s u3 (St_box v1)) (fun (u4 : StV) => lt (St_given_s u4 (St_given v1)) (fun (u5 : StV) => bd (lp (b_X3_copyFrom_42 v1) FU ((0:Int32), u5)) (fun (e41 : (Int32 × StV)) => bd (lp (b_X3_copyFrom_188 v1) FU ((0:Int32), e41.2)) (fun (e47 : (Int32 × StV)) => some ((), e47.2))))))))
def f_X3_exists (v0 : StV) (i1 : Int32) : Option (Int32 × (Unit)) := (if i1 < (0:Int32) then some ((0:Int32), ()) else (if (St_count v0) ≤ i1 then some ((0:Int32), ()) else some ((1:Int32), ())))
def f_X3_join (v0 : StV) (i1 : Int32) : Option (Int32 × (StV)) := lt (St_count v0) (fun (x1 : Int32) => gi x1 8 (lt (St_purse_s v0 (upd (St_purse v0) x1.toNatClampNeg i1)) (fun (u3 : StV) => gi x1 8 (lt (St_guarantor_s u3 (upd (St_guarantor u3) x1.toNatClampNeg (-99999:Int32))) (fun (u5 : StV) => gi x1 8 (lt (St_bid_s u5 (upd (St_bid u5) x1.toNatClampNeg (0:Int32))) (fun (u7 : StV) => gi x1 8 (lt (St_away_s u7 (upd (St_away u7) x1.toNatClampNeg (vp_nar .boolean (0:Int32)))) (fun (u9 : StV) => gi x1 8 (lt (St_taken_s u9 (upd (St_taken u9) x1.toNatClampNeg (vp_nar .boolean (0:Int32)))) (fun (u11 : StV) => gi x1 8 (lt (St_inside_s u11 (upd (St_inside u11) x1.toNatClampNeg (vp_nar .boolean (1:Int32)))) (fun (u13 : StV) => gi x1 8 (lt (St_paidForItself_s u13 (upd (St_paidForItself u13) x1.toNatClampNeg (0:Int32))) (fun (u15 : StV) => gi x1 8 (lt (St_paidForOthers_s u15 (upd (St_paidForOthers u15) x1.toNatClampNeg (0:Int32))) (fun (u17 : StV) => gi x1 8 (lt (St_gotOfPot_s u17 (upd (St_gotOfPot u17) x1.toNatClampNeg (0:Int32))) (fun (u19 : StV) => gi x1 8 (lt (St_shares_s u19 (upd (St_shares u19) x1.toNatClampNeg (0:Int32))) (fun (u21 : StV) => gi x1 8 (lt (St_misses_s u21 (upd (St_misses u21) x1.toNatClampNeg (0:Int32))) (fun (u23 : StV) => lt (St_given_s u23 ((St_given u23) + i1)) (fun (u24 : StV) => lt (St_count_s u24 ((St_count u24) + (1:Int32))) (fun (u25 : StV) => some (x1, u25))))))))))))))))))))))))))
def b_X3_countInside_4 (v0 : StV) (z : (Int32 × Int32)) : Option ((Int32 × Int32) ⊕ (Int32 × Int32)) := (if (St_count v0) ≤ z.2 then some (.inr (z.1, z.2)) else gi z.2 8 ((if (St_inside v0 z.2.toNatClampNeg) = (0:Int32) then lt (z.2 + (1:Int32)) (fun (x4 : Int32) => some (.inl (z.1, x4))) else lt (z.1 + (1:Int32)) (fun (x5 : Int32) => lt (z.2 + (1:Int32)) (fun (x6 : Int32) => some (.inl (x5, x6)))))))
def f_X3_countInside (v0 : StV) : Option (Int32 × (Unit)) := bd (lp (b_X3_countInside_4 v0) FU ((0:Int32), (0:Int32))) (fun (e7 : (Int32 × Int32)) => some (e7.1, ()))
def b_X3_countWaiting_4 (v0 : StV) (z : (Int32 × Int32)) : Option ((Int32 × Int32) ⊕ (Int32 × Int32)) := (if (St_count v0) ≤ z.2 then some (.inr (z.1, z.2)) else gi z.2 8 ((if (St_inside v0 z.2.toNatClampNeg) = (0:Int32) then lt (z.2 + (1:Int32)) (fun (x4 : Int32) => some (.inl (z.1, x4))) else gi z.2 8 ((if (St_taken v0 z.2.toNatClampNeg) = (0:Int32) then lt (z.1 + (1:Int32)) (fun (x8 : Int32) => lt (z.2 + (1:Int32)) (fun (x9 : Int32) => some (.inl (x8, x9)))) else lt (z.2 + (1:Int32)) (fun (x7 : Int32) => some (.inl (z.1, x7))))))))
def f_X3_countWaiting (v0 : StV) : Option (Int32 × (Unit)) := bd (lp (b_X3_countWaiting_4 v0) FU ((0:Int32), (0:Int32))) (fun (e10 : (Int32 × Int32)) => some (e10.1, ()))
def b_X3_sumOfPurses_4 (v0 : StV) (z : (Int32 × Int32)) : Option ((Int32 × Int32) ⊕ (Int32 × Int32)) := (if (St_count v0) ≤ z.2 then some (.inr (z.1, z.2)) else gi z.2 8 (lt (z.1 + (St_purse v0 z.2.toNatClampNeg)) (fun (x3 : Int32) => lt (z.2 + (1:Int32)) (fun (x4 : Int32) => some (.inl (x3, x4))))))
def f_X3_sumOfPurses (v0 : StV) : Option (Int32 × (Unit)) := bd (lp (b_X3_sumOfPurses_4 v0) FU ((0:Int32), (0:Int32))) (fun (e5 : (Int32 × Int32)) => some (e5.1, ()))
def b_X3_sumOfDebts_4 (v0 : StV) (z : (Int32 × Int32)) : Option ((Int32 × Int32) ⊕ (Int32 × Int32)) := (if (64:Int32) ≤ z.2 then some (.inr (z.1, z.2)) else gi z.2 64 (lt (z.1 + (St_debt v0 z.2.toNatClampNeg)) (fun (x3 : Int32) => lt (z.2 + (1:Int32)) (fun (x4 : Int32) => some (.inl (x3, x4))))))
def f_X3_sumOfDebts (v0 : StV) : Option (Int32 × (Unit)) := bd (lp (b_X3_sumOfDebts_4 v0) FU ((0:Int32), (0:Int32))) (fun (e5 : (Int32 × Int32)) => some (e5.1, ()))
def b_X3_chainLength_7 (v0 : StV) (z : (Int32 × Int32 × Int32)) : Option ((Int32 × Int32 × Int32) ⊕ (Int32 × Int32 × Int32)) := (if (8:Int32) ≤ z.2.1 then some (.inr (z.1, z.2.1, z.2.2)) else bd (f_X3_exists v0 z.2.2) (fun (q2 : Int32 × (Unit)) => (if q2.1 = (0:Int32) then some (.inr (z.1, z.2.1, z.2.2)) else (if ((z.1 >>> (z.2.2 &&& 31)) &&& (1:Int32)) = (0:Int32) then lt (z.1 ||| ((1:Int32) <<< (z.2.2 &&& 31))) (fun (x5 : Int32) => lt (z.2.1 + (1:Int32)) (fun (x6 : Int32) => gi z.2.2 8 (lt (St_guarantor v0 z.2.2.toNatClampNeg) (fun (x8 : Int32) => some (.inl (x5, x6, x8)))))) else some (.inr (z.1, z.2.1, z.2.2))))))
def f_X3_chainLength (v0 : StV) (i1 : Int32) : Option (Int32 × (Unit)) := bd (lp (b_X3_chainLength_7 v0) FU ((0:Int32), (0:Int32), i1)) (fun (e9 : (Int32 × Int32 × Int32)) => some (e9.2.1, ()))
def f_X3_mayBid (v0 : StV) (i1 : Int32) : Option (Int32 × (Unit)) := gi i1 8 ((if (St_inside v0 i1.toNatClampNeg) = (0:Int32) then some ((0:Int32), ()) else gi i1 8 ((if (St_taken v0 i1.toNatClampNeg) = (0:Int32) then some ((1:Int32), ()) else some ((0:Int32), ())))))
def f_X3_mayReceive (v0 : StV) (i1 : Int32) : Option (Int32 × (Unit)) := (if (9000:Int32) < ((St_given v0) + i1) then some ((0:Int32), ()) else some ((1:Int32), ()))
def f_X3_receive (v0 : StV) (i1 : Int32) (i2 : Int32) : Option (Unit × (StV)) := gi i1 8 (gi i1 8 (lt (St_purse_s v0 (upd (St_purse v0) i1.toNatClampNeg ((St_purse v0 i1.toNatClampNeg) + i2))) (fun (u3 : StV) => lt (St_given_s u3 ((St_given u3) + i2)) (fun (u4 : StV) => some ((), u4)))))
def f_X3_mayPass (v0 : StV) : Option (Int32 × (Unit)) := (if (99:Int32) ≤ (St_month v0) then some ((0:Int32), ()) else bd (f_X3_countInside v0) (fun (q2 : Int32 × (Unit)) => (if q2.1 ≤ (0:Int32) then some ((0:Int32), ()) else some ((1:Int32), ()))))
def f_X3_gainOfGoing (v0 : StV) (i1 : Int32) : Option (Int32 × (Unit)) := gi i1 8 ((if (St_taken v0 i1.toNatClampNeg) = (0:Int32) then gi i1 8 (gz (2:Int32) (lt ((St_paidForItself v0 i1.toNatClampNeg) / (2:Int32)) (fun (x5 : Int32) => lt (if (St_box v0) < x5 then (St_box v0) else x5) (fun (x6 : Int32) => some (x6, ()))))) else bd (f_X3_countWaiting v0) (fun (q7 : Int32 × (Unit)) => some ((-(St_contribution v0)) * q7.1, ()))))
def f_X3_mayGo (v0 : StV) (i1 : Int32) : Option (Int32 × (Unit)) := gi i1 8 ((if (St_inside v0 i1.toNatClampNeg) = (0:Int32) then some ((0:Int32), ()) else gi i1 8 (bd (f_X3_gainOfGoing v0 i1) (fun (q4 : Int32 × (Unit)) => (if ((St_purse v0 i1.toNatClampNeg) + q4.1) < (0:Int32) then some ((0:Int32), ()) else some ((1:Int32), ()))))))
def f_X3_go (v0 : StV) (i1 : Int32) : Option (Int32 × (StV)) := bd (f_X3_gainOfGoing v0 i1) (fun (q1 : Int32 × (Unit)) => gi i1 8 (gi i1 8 (lt (St_purse_s v0 (upd (St_purse v0) i1.toNatClampNeg ((St_purse v0 i1.toNatClampNeg) + q1.1))) (fun (u4 : StV) => lt (St_box_s u4 ((St_box u4) - q1.1)) (fun (u5 : StV) => gi i1 8 (lt (St_inside_s u5 (upd (St_inside u5) i1.toNatClampNeg (vp_nar .boolean (0:Int32)))) (fun (u7 : StV) => some (q1.1, u7))))))))
def f_X3_settle (v0 : StV) (i1 : Int32) (i2 : Int32) (i3 : Int32) : Option (Int32 × (StV)) := bd (f_X3_pair i1 i2) (fun (q1 : Int32 × (Unit)) => gi q1.1 64 (lt (if i3 < (St_debt v0 q1.1.toNatClampNeg) then i3 else (St_debt v0 q1.1.toNatClampNeg)) (fun (x3 : Int32) => gi q1.1 64 (gi q1.1 64 (lt (St_debt_s v0 (upd (St_debt v0) q1.1.toNatClampNeg ((St_debt v0 q1.1.toNatClampNeg) - x3))) (fun (u6 : StV) => gi i2 8 (gi i2 8 (lt (St_purse_s u6 (upd (St_purse u6) i2.toNatClampNeg ((St_purse u6 i2.toNatClampNeg) + x3))) (fun (u9 : StV) => some (x3, u9))))))))))
def f_X1_payForOther (v0 : RdV) (v1 : StV) (i2 : Int32) : Option (Unit × (RdV × StV)) := gi i2 8 (lt (St_guarantor v1 i2.toNatClampNeg) (fun (x2 : Int32) => bd (f_X3_exists v1 x2) (fun (q3 : Int32 × (Unit)) => (if q3.1 = (0:Int32) then gi i2 8 (lt (Rd_missing_s v0 (upd (Rd_missing v0) i2.toNatClampNeg (vp_nar .boolean (1:Int32)))) (fun (u6 : RdV) => gi i2 8 (gi i2 8 (lt (St_misses_s v1 (upd (St_misses v1) i2.toNatClampNeg ((St_misses v1 i2.toNatClampNeg) + (1:Int32)))) (fun (u9 : StV) => some ((), (u6, u9))))))) else gi x2 8 ((if (Rd_paid v0 x2.toNatClampNeg) = (0:Int32) then gi i2 8 (lt (Rd_missing_s v0 (upd (Rd_missing v0) i2.toNatClampNeg (vp_nar .boolean (1:Int32)))) (fun (u13 : RdV) => gi i2 8 (gi i2 8 (lt (St_misses_s v1 (upd (St_misses v1) i2.toNatClampNeg ((St_misses v1 i2.toNatClampNeg) + (1:Int32)))) (fun (u16 : StV) => some ((), (u13, u16))))))) else gi x2 8 ((if (St_purse v1 x2.toNatClampNeg) < (St_contribution v1) then gi i2 8 (lt (Rd_missing_s v0 (upd (Rd_missing v0) i2.toNatClampNeg (vp_nar .boolean (1:Int32)))) (fun (u20 : RdV) => gi i2 8 (gi i2 8 (lt (St_misses_s v1 (upd (St_misses v1) i2.toNatClampNeg ((St_misses v1 i2.toNatClampNeg) + (1:Int32)))) (fun (u23 : StV) => some ((), (u20, u23))))))) else gi x2 8 (lt ((St_purse v1 x2.toNatClampNeg) - (St_contribution v1)) (fun (x25 : Int32) => gi x2 8 (lt (St_purse_s v1 (upd (St_purse v1) x2.toNatClampNeg x25)) (fun (u27 : StV) => gi x2 8 (lt ((St_paidForOthers u27 x2.toNatClampNeg) + (St_contribution u27)) (fun (x29 : Int32) => gi x2 8 (lt (St_paidForOthers_s u27 (upd (St_paidForOthers u27) x2.toNatClampNeg x29)) (fun (u31 : StV) => bd (f_X3_pair i2 x2) (fun (q32 : Int32 × (Unit)) => gi q32.1 64 (lt ((St_debt u31 q32.1.toNatClampNeg) + (St_contribution u31)) (fun (x34 : Int32) => gi q32.1 64 (lt (St_debt_s u31 (upd (St_debt u31) q32.1.toNatClampNeg x34)) (fun (u36 : StV) => lt (Rd_pence_s v0 ((Rd_pence v0) + (St_contribution u36))) (fun (u37 : RdV) => some ((), (u37, u36))))))))))))))))))))))))
def b_X1_payIn_7 (z : (Int32 × RdV × StV)) : Option ((Int32 × RdV × StV) ⊕ (Int32 × RdV × StV)) := (if (St_count z.2.2) ≤ z.1 then some (.inr (z.1, z.2.1, z.2.2)) else gi z.1 8 (lt (Rd_missing_s z.2.1 (upd (Rd_missing z.2.1) z.1.toNatClampNeg (vp_nar .boolean (0:Int32)))) (fun (u4 : RdV) => gi z.1 8 ((if (St_inside z.2.2 z.1.toNatClampNeg) = (0:Int32) then gi z.1 8 (lt (Rd_paid_s u4 (upd (Rd_paid u4) z.1.toNatClampNeg (vp_nar .boolean (0:Int32)))) (fun (u8 : RdV) => gi z.1 8 ((if (Rd_paid u8 z.1.toNatClampNeg) = (0:Int32) then lt (z.1 + (1:Int32)) (fun (x11 : Int32) => some (.inl (x11, u8, z.2.2))) else gi z.1 8 (lt ((St_purse z.2.2 z.1.toNatClampNeg) - (St_contribution z.2.2)) (fun (x13 : Int32) => gi z.1 8 (lt (St_purse_s z.2.2 (upd (St_purse z.2.2) z.1.toNatClampNeg x13)) (fun (u15 : StV) => gi z.1 8 (lt ((St_paidForItself u15 z.1.toNatClampNeg) + (St_contribution u15)) (fun (x17 : Int32) => gi z.1 8 (lt (St_paidForItself_s u15 (upd (St_paidForItself u15) z.1.toNatClampNeg x17)) (fun (u19 : StV) => lt (Rd_pence_s u8 ((Rd_pence u8) + (St_contribution u19))) (fun (u20 : RdV) => lt (z.1 + (1:Int32)) (fun (x21 : Int32) => some (.inl (x21, u20, u19)))))))))))))))) else gi z.1 8 ((if (St_away z.2.2 z.1.toNatClampNeg) = (0:Int32) then gi z.1 8 ((if (St_purse z.2.2 z.1.toNatClampNeg) < (St_contribution z.2.2) then gi z.1 8 (lt (Rd_paid_s u4 (upd (Rd_paid u4) z.1.toNatClampNeg (vp_nar .boolean (0:Int32)))) (fun (u42 : RdV) => gi z.1 8 ((if (Rd_paid u42 z.1.toNatClampNeg) = (0:Int32) then lt (z.1 + (1:Int32)) (fun (x45 : Int32) => some (.inl (x45, u42, z.2.2))) else gi z.1 8 (lt ((St_purse z.2.2 z.1.toNatClampNeg) - (St_contribution z.2.2)) (fun (x47 : Int32) => gi z.1 8 (lt (St_purse_s z.2.2 (upd (St_purse z.2.2) z.1.toNatClampNeg x47)) (fun (u49 : StV) => gi z.1 8 (lt ((St_paidForItself u49 z.1.toNatClampNeg) + (St_contribution u49)) (fun (x51 : Int32) => gi z.1 8 (lt (St_paidForItself_s u49 (upd (St_paidForItself u49) z.1.toNatClampNeg x51)) (fun (u53 : StV) => lt (Rd_pence_s u42 ((Rd_pence u42) + (St_contribution u53))) (fun (u54 : RdV) => lt (z.1 + (1:Int32)) (fun (x55 : Int32) => some (.inl (x55, u54, u53)))))))))))))))) else gi z.1 8 (lt (Rd_paid_s u4 (upd (Rd_paid u4) z.1.toNatClampNeg (vp_nar .boolean (1:Int32)))) (fun (u57 : RdV) => gi z.1 8 ((if (Rd_paid u57 z.1.toNatClampNeg) = (0:Int32) then lt (z.1 + (1:Int32)) (fun (x60 : Int32) => some (.inl (x60, u57, z.2.2))) else gi z.1 8 (lt ((St_purse z.2.2 z.1.toNatClampNeg) - (St_contribution z.2.2)) (fun (x62 : Int32) => gi z.1 8 (lt (St_purse_s z.2.2 (upd (St_purse z.2.2) z.1.toNatClampNeg x62)) (fun (u64 : StV) => gi z.1 8 (lt ((St_paidForItself u64 z.1.toNatClampNeg) + (St_contribution u64)) (fun (x66 : Int32) => gi z.1 8 (lt (St_paidForItself_s u64 (upd (St_paidForItself u64) z.1.toNatClampNeg x66)) (fun (u68 : StV) => lt (Rd_pence_s u57 ((Rd_pence u57) + (St_contribution u68))) (fun (u69 : RdV) => lt (z.1 + (1:Int32)) (fun (x70 : Int32) => some (.inl (x70, u69, u68)))))))))))))))))) else gi z.1 8 (lt (Rd_paid_s u4 (upd (Rd_paid u4) z.1.toNatClampNeg (vp_nar .boolean (0:Int32)))) (fun (u25 : RdV) => gi z.1 8 ((if (Rd_paid u25 z.1.toNatClampNeg) = (0:Int32) then lt (z.1 + (1:Int32)) (fun (x28 : Int32) => some (.inl (x28, u25, z.2.2))) else gi z.1 8 (lt ((St_purse z.2.2 z.1.toNatClampNeg) - (St_contribution z.2.2)) (fun (x30 : Int32) => gi z.1 8 (lt (St_purse_s z.2.2 (upd (St_purse z.2.2) z.1.toNatClampNeg x30)) (fun (u32 : StV) => gi z.1 8 (lt ((St_paidForItself u32 z.1.toNatClampNeg) + (St_contribution u32)) (fun (x34 : Int32) => gi z.1 8 (lt (St_paidForItself_s u32 (upd (St_paidForItself u32) z.1.toNatClampNeg x34)) (fun (u36 : StV) => lt (Rd_pence_s u25 ((Rd_pence u25) + (St_contribution u36))) (fun (u37 : RdV) => lt (z.1 + (1:Int32)) (fun (x38 : Int32) => some (.inl (x38, u37, u36)))))))))))))))))))))))
def b_X1_payIn_120 (z : (Int32 × RdV × StV)) : Option ((Int32 × RdV × StV) ⊕ (Int32 × RdV × StV)) := (if (St_count z.2.2) ≤ z.1 then some (.inr (z.1, z.2.1, z.2.2)) else gi z.1 8 ((if (St_inside z.2.2 z.1.toNatClampNeg) = (0:Int32) then lt (z.1 + (1:Int32)) (fun (x75 : Int32) => some (.inl (x75, z.2.1, z.2.2))) else gi z.1 8 ((if (Rd_paid z.2.1 z.1.toNatClampNeg) = (0:Int32) then bd (f_X1_payForOther z.2.1 z.2.2 z.1) (fun (q79 : Unit × (RdV × StV)) => lt (z.1 + (1:Int32)) (fun (x80 : Int32) => some (.inl (x80, q79.2.1, q79.2.2)))) else lt (z.1 + (1:Int32)) (fun (x78 : Int32) => some (.inl (x78, z.2.1, z.2.2))))))))
def f_X1_payIn (v0 : RdV) (v1 : StV) : Option (Unit × (RdV × StV)) := lt (Rd_pence_s v0 (0:Int32)) (fun (u1 : RdV) => bd (lp (b_X1_payIn_7) FU ((0:Int32), u1, v1)) (fun (e71 : (Int32 × RdV × StV)) => bd (lp (b_X1_payIn_120) FU ((0:Int32), e71.2.1, e71.2.2)) (fun (e81 : (Int32 × RdV × StV)) => some ((), (e81.2.1, e81.2.2)))))
def f_X1_takesPart (v0 : RdV) (v1 : StV) (i2 : Int32) : Option (Int32 × (Unit)) := gi i2 8 ((if (St_inside v1 i2.toNatClampNeg) = (0:Int32) then some ((0:Int32), ()) else gi i2 8 ((if (Rd_missing v0 i2.toNatClampNeg) = (0:Int32) then some ((1:Int32), ()) else some ((0:Int32), ())))))
def f_X1_canTake (v0 : RdV) (v1 : StV) (i2 : Int32) : Option (Int32 × (Unit)) := bd (f_X1_takesPart v0 v1 i2) (fun (q1 : Int32 × (Unit)) => (if q1.1 = (0:Int32) then some ((0:Int32), ()) else gi i2 8 ((if (St_taken v1 i2.toNatClampNeg) = (0:Int32) then some ((1:Int32), ()) else some ((0:Int32), ())))))
def f_X1_countedBid (v0 : RdV) (v1 : StV) (i2 : Int32) : Option (Int32 × (Unit)) := gi i2 8 (gz (2:Int32) (lt (if ((Rd_pence v0) / (2:Int32)) < (St_bid v1 i2.toNatClampNeg) then ((Rd_pence v0) / (2:Int32)) else (St_bid v1 i2.toNatClampNeg)) (fun (x3 : Int32) => some (x3, ()))))
def b_X1_taker_27 (v0 : RdV) (v1 : StV) (p3 : Int32) (z : (Int32 × Int32)) : Option ((Int32 × Int32) ⊕ (Int32 × Int32)) := (if (St_count v1) ≤ z.2 then some (.inr (z.1, z.2)) else (if (St_count v1) ≤ (p3 + z.2) then lt ((p3 + z.2) - (St_count v1)) (fun (x4 : Int32) => bd (f_X1_canTake v0 v1 x4) (fun (q5 : Int32 × (Unit)) => (if q5.1 = (0:Int32) then lt (z.2 + (1:Int32)) (fun (x7 : Int32) => some (.inl (z.1, x7))) else (if z.1 = (-99999:Int32) then lt (z.2 + (1:Int32)) (fun (x9 : Int32) => some (.inl (x4, x9))) else bd (f_X1_countedBid v0 v1 x4) (fun (q10 : Int32 × (Unit)) => bd (f_X1_countedBid v0 v1 z.1) (fun (q11 : Int32 × (Unit)) => (if q10.1 ≤ q11.1 then lt (z.2 + (1:Int32)) (fun (x13 : Int32) => some (.inl (z.1, x13))) else lt (z.2 + (1:Int32)) (fun (x14 : Int32) => some (.inl (x4, x14)))))))))) else lt (p3 + z.2) (fun (x15 : Int32) => bd (f_X1_canTake v0 v1 x15) (fun (q16 : Int32 × (Unit)) => (if q16.1 = (0:Int32) then lt (z.2 + (1:Int32)) (fun (x18 : Int32) => some (.inl (z.1, x18))) else (if z.1 = (-99999:Int32) then lt (z.2 + (1:Int32)) (fun (x20 : Int32) => some (.inl (x15, x20))) else bd (f_X1_countedBid v0 v1 x15) (fun (q21 : Int32 × (Unit)) => bd (f_X1_countedBid v0 v1 z.1) (fun (q22 : Int32 × (Unit)) => (if q21.1 ≤ q22.1 then lt (z.2 + (1:Int32)) (fun (x24 : Int32) => some (.inl (z.1, x24))) else lt (z.2 + (1:Int32)) (fun (x25 : Int32) => some (.inl (x15, x25))))))))))))
def f_X1_taker (v0 : RdV) (v1 : StV) : Option (Int32 × (Unit)) := (if (St_count v1) ≤ (0:Int32) then bd (lp (b_X1_taker_27 v0 v1 (0:Int32)) FU ((-99999:Int32), (0:Int32))) (fun (e26 : (Int32 × Int32)) => some (e26.1, ())) else gz (St_count v1) (lt ((St_month v1) - (St_month v1) / (St_count v1) * (St_count v1)) (fun (x28 : Int32) => bd (lp (b_X1_taker_27 v0 v1 x28) FU ((-99999:Int32), (0:Int32))) (fun (e29 : (Int32 × Int32)) => some (e29.1, ())))))
def b_X1_share_5 (v0 : RdV) (v1 : StV) (p2 : Int32) (z : (Int32 × Int32)) : Option ((Int32 × Int32) ⊕ (Int32 × Int32)) := (if (St_count v1) ≤ z.2 then some (.inr (z.1, z.2)) else (if z.2 = p2 then lt (z.2 + (1:Int32)) (fun (x3 : Int32) => some (.inl (z.1, x3))) else bd (f_X1_takesPart v0 v1 z.2) (fun (q4 : Int32 × (Unit)) => (if q4.1 = (0:Int32) then lt (z.2 + (1:Int32)) (fun (x6 : Int32) => some (.inl (z.1, x6))) else lt (z.1 + (1:Int32)) (fun (x7 : Int32) => lt (z.2 + (1:Int32)) (fun (x8 : Int32) => some (.inl (x7, x8))))))))
def b_X1_share_64 (v0 : RdV) (p2 : Int32) (p3 : Int32) (p4 : Int32) (p5 : Int32) (z : (Int32 × StV)) : Option ((Int32 × StV) ⊕ (Int32 × StV)) := (if (St_count z.2) ≤ z.1 then some (.inr (z.1, z.2)) else (if z.1 = p2 then lt (z.1 + (1:Int32)) (fun (x14 : Int32) => some (.inl (x14, z.2))) else bd (f_X1_takesPart v0 z.2 z.1) (fun (q15 : Int32 × (Unit)) => (if q15.1 = (0:Int32) then lt (z.1 + (1:Int32)) (fun (x17 : Int32) => some (.inl (x17, z.2))) else gi z.1 8 (gi z.1 8 (lt (St_purse_s z.2 (upd (St_purse z.2) z.1.toNatClampNeg ((St_purse z.2 z.1.toNatClampNeg) + p5))) (fun (u20 : StV) => gi z.1 8 (gi z.1 8 (lt (St_shares_s u20 (upd (St_shares u20) z.1.toNatClampNeg ((St_shares u20 z.1.toNatClampNeg) + p5))) (fun (u23 : StV) => lt (z.1 + (1:Int32)) (fun (x24 : Int32) => some (.inl (x24, u23)))))))))))))
def f_X1_share (v0 : RdV) (v1 : StV) (i2 : Int32) : Option (Unit × (StV)) := bd (lp (b_X1_share_5 v0 v1 i2) FU ((0:Int32), (0:Int32))) (fun (e9 : (Int32 × Int32)) => bd (f_X1_countedBid v0 v1 i2) (fun (q10 : Int32 × (Unit)) => (if e9.1 ≤ (0:Int32) then bd (lp (b_X1_share_64 v0 i2 e9.1 q10.1 (0:Int32)) FU ((0:Int32), v1)) (fun (e25 : (Int32 × StV)) => lt ((St_box e25.2) + (q10.1 - ((0:Int32) * e9.1))) (fun (x26 : Int32) => lt (St_box_s e25.2 x26) (fun (u27 : StV) => some ((), u27)))) else gz e9.1 (lt (q10.1 / e9.1) (fun (x29 : Int32) => bd (lp (b_X1_share_64 v0 i2 e9.1 q10.1 x29) FU ((0:Int32), v1)) (fun (e30 : (Int32 × StV)) => lt (St_box_s e30.2 ((St_box e30.2) + (q10.1 - (x29 * e9.1)))) (fun (u31 : StV) => some ((), u31))))))))
def b_X1_payOut_29 (v0 : RdV) (p2 : Int32) (z : (Int32 × Int32 × StV)) : Option ((Int32 × Int32 × StV) ⊕ (Int32 × Int32 × StV)) := (if (St_count z.2.2) ≤ z.2.1 then some (.inr (z.1, z.2.1, z.2.2)) else bd (f_X3_settle z.2.2 p2 z.2.1 z.1) (fun (q8 : Int32 × (StV)) => lt (z.1 - q8.1) (fun (x9 : Int32) => lt (z.2.1 + (1:Int32)) (fun (x10 : Int32) => some (.inl (x9, x10, q8.2))))))
def f_X1_payOut (v0 : RdV) (v1 : StV) (i2 : Int32) : Option (Unit × (StV)) := bd (f_X1_countedBid v0 v1 i2) (fun (q1 : Int32 × (Unit)) => lt ((Rd_pence v0) - q1.1) (fun (x2 : Int32) => gi i2 8 (lt (St_gotOfPot_s v1 (upd (St_gotOfPot v1) i2.toNatClampNeg x2)) (fun (u4 : StV) => gi i2 8 (lt (St_taken_s u4 (upd (St_taken u4) i2.toNatClampNeg (vp_nar .boolean (1:Int32)))) (fun (u6 : StV) => bd (lp (b_X1_payOut_29 v0 i2) FU (x2, (0:Int32), u6)) (fun (e11 : (Int32 × Int32 × StV)) => gi i2 8 (gi i2 8 (lt (St_purse_s e11.2.2 (upd (St_purse e11.2.2) i2.toNatClampNeg ((St_purse e11.2.2 i2.toNatClampNeg) + e11.1))) (fun (u14 : StV) => some ((), u14)))))))))))
def b_X1_pass_47 (v0 : RdV) (p2 : Int32) (z : (Int32 × StV)) : Option ((Int32 × StV) ⊕ (Int32 × StV)) := (if (St_count z.2) ≤ z.1 then some (.inr (z.1, z.2)) else gi z.1 8 (lt (St_bid_s z.2 (upd (St_bid z.2) z.1.toNatClampNeg (0:Int32))) (fun (u8 : StV) => gi z.1 8 (lt (St_away_s u8 (upd (St_away u8) z.1.toNatClampNeg (vp_nar .boolean (0:Int32)))) (fun (u10 : StV) => lt (z.1 + (1:Int32)) (fun (x11 : Int32) => some (.inl (x11, u10))))))))
def f_X1_pass (v0 : RdV) (v1 : StV) : Option (Int32 × (RdV × StV)) := bd (f_X1_payIn v0 v1) (fun (q1 : Unit × (RdV × StV)) => bd (f_X1_taker q1.2.1 q1.2.2) (fun (q2 : Int32 × (Unit)) => (if q2.1 = (-99999:Int32) then lt (St_box_s q1.2.2 ((St_box q1.2.2) + (Rd_pence q1.2.1))) (fun (u14 : StV) => bd (lp (b_X1_pass_47 q1.2.1 q2.1) FU ((0:Int32), u14)) (fun (e15 : (Int32 × StV)) => lt (St_month_s e15.2 ((St_month e15.2) + (1:Int32))) (fun (u16 : StV) => some (q2.1, (q1.2.1, u16))))) else bd (f_X1_share q1.2.1 q1.2.2 q2.1) (fun (q4 : Unit × (StV)) => bd (f_X1_payOut q1.2.1 q4.2 q2.1) (fun (q5 : Unit × (StV)) => bd (lp (b_X1_pass_47 q1.2.1 q2.1) FU ((0:Int32), q5.2)) (fun (e12 : (Int32 × StV)) => lt (St_month_s e12.2 ((St_month e12.2) + (1:Int32))) (fun (u13 : StV) => some (q2.1, (q1.2.1, u13)))))))))
def b_X1_greatestBidBeside_5 (v0 : RdV) (v1 : StV) (p2 : Int32) (z : (Int32 × Int32)) : Option ((Int32 × Int32) ⊕ (Int32 × Int32)) := (if (St_count v1) ≤ z.2 then some (.inr (z.1, z.2)) else (if z.2 = p2 then lt (z.2 + (1:Int32)) (fun (x3 : Int32) => some (.inl (z.1, x3))) else bd (f_X1_canTake v0 v1 z.2) (fun (q4 : Int32 × (Unit)) => (if q4.1 = (0:Int32) then lt (z.2 + (1:Int32)) (fun (x6 : Int32) => some (.inl (z.1, x6))) else bd (f_X1_countedBid v0 v1 z.2) (fun (q7 : Int32 × (Unit)) => lt (if z.1 < q7.1 then q7.1 else z.1) (fun (x8 : Int32) => lt (z.2 + (1:Int32)) (fun (x9 : Int32) => some (.inl (x8, x9)))))))))
def f_X1_greatestBidBeside (v0 : RdV) (v1 : StV) (i2 : Int32) : Option (Int32 × (Unit)) := bd (lp (b_X1_greatestBidBeside_5 v0 v1 i2) FU ((0:Int32), (0:Int32))) (fun (e10 : (Int32 × Int32)) => some (e10.1, ()))
def f_X0_remember (v0 : PaV) (v1 : StV) : Option (Unit × (PaV)) := gi (Pa_next v0) 14 (bd (f_X3_copyFrom (Pa_states v0 (Pa_next v0).toNatClampNeg) v1) (fun (q2 : Unit × (StV)) => lt (Pa_states_s v0 (upS (Pa_states v0) (Pa_next v0).toNatClampNeg q2.2)) (fun (u3 : PaV) => (if (14:Int32) ≤ ((Pa_next u3) + (1:Int32)) then lt (Pa_next_s u3 (0:Int32)) (fun (u5 : PaV) => lt (if (14:Int32) < ((Pa_size u5) + (1:Int32)) then (14:Int32) else ((Pa_size u5) + (1:Int32))) (fun (x6 : Int32) => lt (Pa_size_s u5 x6) (fun (u7 : PaV) => some ((), u7)))) else lt (Pa_next_s u3 ((Pa_next u3) + (1:Int32))) (fun (u8 : PaV) => lt (if (14:Int32) < ((Pa_size u8) + (1:Int32)) then (14:Int32) else ((Pa_size u8) + (1:Int32))) (fun (x9 : Int32) => lt (Pa_size_s u8 x9) (fun (u10 : PaV) => some ((), u10))))))))
def f_X0_takeBack (v0 : PaV) (v1 : StV) : Option (Int32 × (PaV × StV)) := (if (Pa_next v0) ≤ (0:Int32) then lt (Pa_next_s v0 (13:Int32)) (fun (u2 : PaV) => lt (Pa_size_s u2 ((Pa_size u2) - (1:Int32))) (fun (u3 : PaV) => gi (Pa_next u3) 14 (bd (f_X3_copyFrom v1 (Pa_states u3 (Pa_next u3).toNatClampNeg)) (fun (q5 : Unit × (StV)) => some (Pa_size u3, (u3, q5.2)))))) else lt (Pa_next_s v0 ((Pa_next v0) - (1:Int32))) (fun (u6 : PaV) => lt (Pa_size_s u6 ((Pa_size u6) - (1:Int32))) (fun (u7 : PaV) => gi (Pa_next u7) 14 (bd (f_X3_copyFrom v1 (Pa_states u7 (Pa_next u7).toNatClampNeg)) (fun (q9 : Unit × (StV)) => some (Pa_size u7, (u7, q9.2)))))))
def f_X5_about (v1 : StV) (i1 : Int32) : Option (Int32 × (Unit)) := (if i1 = (0:Int32) then some (St_count v1, ()) else if i1 = (1:Int32) then bd (f_X3_countInside v1) (fun (q3 : Int32 × (Unit)) => some (q3.1, ())) else if i1 = (2:Int32) then some (St_month v1, ()) else if i1 = (3:Int32) then some (St_contribution v1, ()) else if i1 = (4:Int32) then some (St_box v1, ()) else if i1 = (5:Int32) then bd (f_X3_sumOfPurses v1) (fun (q8 : Int32 × (Unit)) => some (q8.1, ())) else if i1 = (6:Int32) then bd (f_X3_countWaiting v1) (fun (q10 : Int32 × (Unit)) => some (q10.1, ())) else if i1 = (7:Int32) then bd (f_X3_sumOfDebts v1) (fun (q12 : Int32 × (Unit)) => some (q12.1, ())) else if i1 = (8:Int32) then some (St_given v1, ()) else none)
def f_X5_requireMember (v1 : StV) (i1 : Int32) : Option (Unit × (Unit)) := bd (f_X3_exists v1 i1) (fun (q1 : Int32 × (Unit)) => (if q1.1 = (0:Int32) then none else some ((), ())))
def f_X5_member (v1 : StV) (i1 : Int32) (i2 : Int32) : Option (Int32 × (Unit)) := bd (f_X5_requireMember v1 i1) (fun (q1 : Unit × (Unit)) => (if i2 = (0:Int32) then gi i1 8 (some (St_purse v1 i1.toNatClampNeg, ())) else if i2 = (1:Int32) then gi i1 8 (some (St_guarantor v1 i1.toNatClampNeg, ())) else if i2 = (2:Int32) then gi i1 8 (some (St_bid v1 i1.toNatClampNeg, ())) else if i2 = (3:Int32) then gi i1 8 ((if (St_away v1 i1.toNatClampNeg) = (0:Int32) then some ((0:Int32), ()) else some ((1:Int32), ()))) else if i2 = (4:Int32) then gi i1 8 ((if (St_taken v1 i1.toNatClampNeg) = (0:Int32) then some ((0:Int32), ()) else some ((1:Int32), ()))) else if i2 = (5:Int32) then gi i1 8 ((if (St_inside v1 i1.toNatClampNeg) = (0:Int32) then some ((0:Int32), ()) else some ((1:Int32), ()))) else if i2 = (6:Int32) then gi i1 8 (some (St_paidForItself v1 i1.toNatClampNeg, ())) else if i2 = (7:Int32) then gi i1 8 (some (St_paidForOthers v1 i1.toNatClampNeg, ())) else if i2 = (8:Int32) then gi i1 8 (some (St_gotOfPot v1 i1.toNatClampNeg, ())) else if i2 = (9:Int32) then gi i1 8 (some (St_shares v1 i1.toNatClampNeg, ())) else if i2 = (10:Int32) then gi i1 8 (some (St_misses v1 i1.toNatClampNeg, ())) else none))
def f_X5_requireTwoMembers (v1 : StV) (i1 : Int32) (i2 : Int32) : Option (Unit × (Unit)) := bd (f_X5_requireMember v1 i1) (fun (q1 : Unit × (Unit)) => bd (f_X5_requireMember v1 i2) (fun (q2 : Unit × (Unit)) => (if i1 = i2 then none else some ((), ()))))
def f_X5_owes (v1 : StV) (i1 : Int32) (i2 : Int32) : Option (Int32 × (Unit)) := bd (f_X5_requireTwoMembers v1 i1 i2) (fun (q1 : Unit × (Unit)) => bd (f_X3_pair i1 i2) (fun (q2 : Int32 × (Unit)) => gi q2.1 64 (some (St_debt v1 q2.1.toNatClampNeg, ()))))
def f_X5_chain (v1 : StV) (i1 : Int32) : Option (Int32 × (Unit)) := bd (f_X5_requireMember v1 i1) (fun (q1 : Unit × (Unit)) => bd (f_X3_chainLength v1 i1) (fun (q2 : Int32 × (Unit)) => some (q2.1, ())))
def f_X5_requireRange (i0 : Int32) (i1 : Int32) (i2 : Int32) : Option (Unit × (Unit)) := (if i0 < i1 then none else (if i0 ≤ i2 then some ((), ()) else none))
def f_X5_addMember (v1 : StV) (v7 : PaV) (i1 : Int32) : Option (Int32 × (StV × PaV)) := bd (f_X5_requireRange i1 (0:Int32) (999:Int32)) (fun (q1 : Unit × (Unit)) => (if (St_count v1) < (8:Int32) then bd (f_X0_remember v7 v1) (fun (q3 : Unit × (PaV)) => bd (f_X3_join v1 i1) (fun (q4 : Int32 × (StV)) => some (q4.1, (q4.2, q3.2)))) else none))
def f_X5_setContribution (v1 : StV) (v7 : PaV) (i1 : Int32) : Option (Int32 × (StV × PaV)) := bd (f_X5_requireRange i1 (1:Int32) (50:Int32)) (fun (q1 : Unit × (Unit)) => bd (f_X0_remember v7 v1) (fun (q2 : Unit × (PaV)) => lt (St_contribution v1) (fun (x3 : Int32) => lt (St_contribution_s v1 i1) (fun (u4 : StV) => some (x3, (u4, q2.2))))))
def f_X5_setGuarantor (v1 : StV) (v7 : PaV) (i1 : Int32) (i2 : Int32) : Option (Int32 × (StV × PaV)) := (if i2 = (-99999:Int32) then bd (f_X5_requireMember v1 i1) (fun (q8 : Unit × (Unit)) => bd (f_X0_remember v7 v1) (fun (q9 : Unit × (PaV)) => gi i1 8 (lt (St_guarantor v1 i1.toNatClampNeg) (fun (x11 : Int32) => gi i1 8 (lt (St_guarantor_s v1 (upd (St_guarantor v1) i1.toNatClampNeg i2)) (fun (u13 : StV) => some (x11, (u13, q9.2)))))))) else bd (f_X5_requireTwoMembers v1 i1 i2) (fun (q2 : Unit × (Unit)) => bd (f_X0_remember v7 v1) (fun (q3 : Unit × (PaV)) => gi i1 8 (lt (St_guarantor v1 i1.toNatClampNeg) (fun (x5 : Int32) => gi i1 8 (lt (St_guarantor_s v1 (upd (St_guarantor v1) i1.toNatClampNeg i2)) (fun (u7 : StV) => some (x5, (u7, q3.2)))))))))
def f_X5_bid (v1 : StV) (v7 : PaV) (i1 : Int32) (i2 : Int32) : Option (Int32 × (StV × PaV)) := bd (f_X5_requireMember v1 i1) (fun (q1 : Unit × (Unit)) => bd (f_X5_requireRange i2 (0:Int32) (999:Int32)) (fun (q2 : Unit × (Unit)) => bd (f_X3_mayBid v1 i1) (fun (q3 : Int32 × (Unit)) => (if q3.1 = (0:Int32) then none else bd (f_X0_remember v7 v1) (fun (q5 : Unit × (PaV)) => gi i1 8 (lt (St_bid v1 i1.toNatClampNeg) (fun (x7 : Int32) => gi i1 8 (lt (St_bid_s v1 (upd (St_bid v1) i1.toNatClampNeg i2)) (fun (u9 : StV) => some (x7, (u9, q5.2)))))))))))
def f_X5_stayAway (v1 : StV) (v7 : PaV) (i1 : Int32) (i2 : Int32) : Option (Int32 × (StV × PaV)) := bd (f_X5_requireMember v1 i1) (fun (q1 : Unit × (Unit)) => bd (f_X0_remember v7 v1) (fun (q2 : Unit × (PaV)) => gi i1 8 (lt (St_away v1 i1.toNatClampNeg) (fun (x4 : Int32) => gi i1 8 (lt (St_away_s v1 (upd (St_away v1) i1.toNatClampNeg (vp_nar .boolean i2))) (fun (u6 : StV) => gb x4 (some (x4, (u6, q2.2)))))))))
def f_X5_give (v1 : StV) (v7 : PaV) (i1 : Int32) (i2 : Int32) : Option (Int32 × (StV × PaV)) := bd (f_X5_requireMember v1 i1) (fun (q1 : Unit × (Unit)) => bd (f_X5_requireRange i2 (1:Int32) (999:Int32)) (fun (q2 : Unit × (Unit)) => bd (f_X3_mayReceive v1 i2) (fun (q3 : Int32 × (Unit)) => (if q3.1 = (0:Int32) then none else bd (f_X0_remember v7 v1) (fun (q5 : Unit × (PaV)) => bd (f_X3_receive v1 i1 i2) (fun (q6 : Unit × (StV)) => gi i1 8 (some (St_purse q6.2 i1.toNatClampNeg, (q6.2, q5.2)))))))))
def f_X5_month (v1 : StV) (v3 : RdV) (v7 : PaV) : Option (Int32 × (StV × RdV × PaV)) := bd (f_X3_mayPass v1) (fun (q1 : Int32 × (Unit)) => (if q1.1 = (0:Int32) then none else bd (f_X0_remember v7 v1) (fun (q3 : Unit × (PaV)) => bd (f_X1_pass v3 v1) (fun (q4 : Int32 × (RdV × StV)) => some (q4.1, (q4.2.2, q4.2.1, q3.2))))))
def f_X5_leave (v1 : StV) (v7 : PaV) (i1 : Int32) : Option (Int32 × (StV × PaV)) := bd (f_X5_requireMember v1 i1) (fun (q1 : Unit × (Unit)) => bd (f_X3_mayGo v1 i1) (fun (q2 : Int32 × (Unit)) => (if q2.1 = (0:Int32) then none else bd (f_X0_remember v7 v1) (fun (q4 : Unit × (PaV)) => bd (f_X3_go v1 i1) (fun (q5 : Int32 × (StV)) => some (q5.1, (q5.2, q4.2)))))))
def f_X5_repay (v1 : StV) (v7 : PaV) (i1 : Int32) (i2 : Int32) : Option (Int32 × (StV × PaV)) := bd (f_X5_requireTwoMembers v1 i1 i2) (fun (q1 : Unit × (Unit)) => bd (f_X0_remember v7 v1) (fun (q2 : Unit × (PaV)) => gi i1 8 (bd (f_X3_settle v1 i1 i2 (St_purse v1 i1.toNatClampNeg)) (fun (q4 : Int32 × (StV)) => gi i1 8 (gi i1 8 (lt (St_purse_s q4.2 (upd (St_purse q4.2) i1.toNatClampNeg ((St_purse q4.2 i1.toNatClampNeg) - q4.1))) (fun (u7 : StV) => some (q4.1, (u7, q2.2)))))))))
def f_X5_undo (v1 : StV) (v7 : PaV) : Option (Int32 × (StV × PaV)) := (if (0:Int32) < (Pa_size v7) then bd (f_X0_takeBack v7 v1) (fun (q2 : Int32 × (PaV × StV)) => some (q2.1, (q2.2.2, q2.2.1))) else none)
def f_X5_winner (v1 : StV) (v2 : StV) (v3 : RdV) : Option (Int32 × (StV × RdV)) := bd (f_X3_copyFrom v2 v1) (fun (q1 : Unit × (StV)) => bd (f_X1_pass v3 q1.2) (fun (q2 : Int32 × (RdV × StV)) => some (q2.1, (q2.2.2, q2.2.1))))
def f_X5_pot (v1 : StV) (v2 : StV) (v3 : RdV) : Option (Int32 × (StV × RdV)) := bd (f_X3_copyFrom v2 v1) (fun (q1 : Unit × (StV)) => bd (f_X1_payIn v3 q1.2) (fun (q2 : Unit × (RdV × StV)) => some (Rd_pence q2.2.1, (q2.2.2, q2.2.1))))
def f_X5_change (v1 : StV) (v2 : StV) (v3 : RdV) (i1 : Int32) : Option (Int32 × (StV × RdV)) := bd (f_X5_requireMember v1 i1) (fun (q1 : Unit × (Unit)) => bd (f_X3_copyFrom v2 v1) (fun (q2 : Unit × (StV)) => bd (f_X1_pass v3 q2.2) (fun (q3 : Int32 × (RdV × StV)) => gi i1 8 (gi i1 8 (lt ((St_purse q3.2.2 i1.toNatClampNeg) - (St_purse v1 i1.toNatClampNeg)) (fun (x6 : Int32) => some (x6, (q3.2.2, q3.2.1))))))))
def b_X5_leastBid_60 (v1 : StV) (v3 : RdV) (p1 : Int32) (p2 : Int32) (z : (Int32 × StV)) : Option ((Int32 × StV) ⊕ ((Int32 × StV) ⊕ (Int32 × (StV × RdV)))) := (if (p2 + (1:Int32)) < z.1 then some (.inr (.inl (z.1, z.2))) else gi p1 8 (lt (St_bid_s z.2 (upd (St_bid z.2) p1.toNatClampNeg z.1)) (fun (u9 : StV) => bd (f_X1_taker v3 u9) (fun (q10 : Int32 × (Unit)) => (if q10.1 = p1 then some (.inr (.inr (z.1, (u9, v3)))) else lt (z.1 + (1:Int32)) (fun (x12 : Int32) => some (.inl (x12, u9))))))))
def f_X5_leastBid (v1 : StV) (v2 : StV) (v3 : RdV) (i1 : Int32) : Option (Int32 × (StV × RdV)) := bd (f_X5_requireMember v1 i1) (fun (q1 : Unit × (Unit)) => bd (f_X3_copyFrom v2 v1) (fun (q2 : Unit × (StV)) => bd (f_X1_payIn v3 q2.2) (fun (q3 : Unit × (RdV × StV)) => bd (f_X1_canTake q3.2.1 q3.2.2 i1) (fun (q4 : Int32 × (Unit)) => (if q4.1 = (0:Int32) then some ((-99999:Int32), (q3.2.2, q3.2.1)) else bd (f_X1_greatestBidBeside q3.2.1 q3.2.2 i1) (fun (q6 : Int32 × (Unit)) => bd (lp (b_X5_leastBid_60 v1 q3.2.1 i1 q6.1) FU (q6.1, q3.2.2)) (fun (e13 : ((Int32 × StV) ⊕ (Int32 × (StV × RdV)))) => el e13 (fun (s14 : (Int32 × StV)) => some ((-99999:Int32), (s14.2, q3.2.1))) (fun r => r))))))))
def b_X5_when_18 (v1 : StV) (p1 : Int32) (z : (Int32 × StV × RdV)) : Option ((Int32 × StV × RdV) ⊕ ((Int32 × StV × RdV) ⊕ (Int32 × (StV × RdV)))) := (if (20:Int32) ≤ z.1 then some (.inr (.inl (z.1, z.2.1, z.2.2))) else bd (f_X3_mayPass z.2.1) (fun (q4 : Int32 × (Unit)) => (if q4.1 = (0:Int32) then some (.inr (.inl (z.1, z.2.1, z.2.2))) else lt (St_month z.2.1) (fun (x6 : Int32) => bd (f_X1_pass z.2.2 z.2.1) (fun (q7 : Int32 × (RdV × StV)) => (if q7.1 = p1 then some (.inr (.inr (x6, (q7.2.2, q7.2.1)))) else lt (z.1 + (1:Int32)) (fun (x9 : Int32) => some (.inl (x9, q7.2.2, q7.2.1)))))))))
def f_X5_when (v1 : StV) (v2 : StV) (v3 : RdV) (i1 : Int32) : Option (Int32 × (StV × RdV)) := bd (f_X5_requireMember v1 i1) (fun (q1 : Unit × (Unit)) => bd (f_X3_copyFrom v2 v1) (fun (q2 : Unit × (StV)) => bd (lp (b_X5_when_18 v1 i1) FU ((0:Int32), q2.2, v3)) (fun (e10 : ((Int32 × StV × RdV) ⊕ (Int32 × (StV × RdV)))) => el e10 (fun (s11 : (Int32 × StV × RdV)) => some ((-99999:Int32), (s11.2.1, s11.2.2))) (fun r => r))))
def b_X5_inTheEnd_18 (v1 : StV) (p1 : Int32) (z : (Int32 × StV × RdV)) : Option ((Int32 × StV × RdV) ⊕ (Int32 × StV × RdV)) := (if (20:Int32) ≤ z.1 then some (.inr (z.1, z.2.1, z.2.2)) else bd (f_X3_countWaiting z.2.1) (fun (q4 : Int32 × (Unit)) => (if q4.1 ≤ (0:Int32) then some (.inr (z.1, z.2.1, z.2.2)) else bd (f_X3_mayPass z.2.1) (fun (q6 : Int32 × (Unit)) => (if q6.1 = (0:Int32) then some (.inr (z.1, z.2.1, z.2.2)) else bd (f_X1_pass z.2.2 z.2.1) (fun (q8 : Int32 × (RdV × StV)) => lt (z.1 + (1:Int32)) (fun (x9 : Int32) => some (.inl (x9, q8.2.2, q8.2.1)))))))))
def f_X5_inTheEnd (v1 : StV) (v2 : StV) (v3 : RdV) (i1 : Int32) : Option (Int32 × (StV × RdV)) := bd (f_X5_requireMember v1 i1) (fun (q1 : Unit × (Unit)) => bd (f_X3_copyFrom v2 v1) (fun (q2 : Unit × (StV)) => bd (lp (b_X5_inTheEnd_18 v1 i1) FU ((0:Int32), q2.2, v3)) (fun (e10 : (Int32 × StV × RdV)) => gi i1 8 (some (St_purse e10.2.1 i1.toNatClampNeg, (e10.2.1, e10.2.2))))))
def f_L_cell (xs : Nat → Int32) (L : Nat) (i1 : Int32) : Option (Int32 × (Unit)) := (if (Int32.ofNat L) ≤ i1 then some (((32452867:Int32) * i1) + (15485863:Int32), ()) else gi i1 L (some (xs i1.toNatClampNeg, ())))
def f_L_low (i0 : Int32) (i1 : Int32) : Option (Int32 × (Unit)) := gz i1 (lt ((i0 &&& (2147483647:Int32)) - (i0 &&& (2147483647:Int32)) / i1 * i1) (fun (x2 : Int32) => some (x2, ())))
def b_L_build_12 (xs : Nat → Int32) (L : Nat) (p2 : Int32) (p4 : Int32) (z : (Int32 × Int32 × StV × PaV)) : Option ((Int32 × Int32 × StV × PaV) ⊕ (Int32 × Int32 × StV × PaV)) := (if p2 ≤ z.2.1 then some (.inr (z.1, z.2.1, z.2.2.1, z.2.2.2)) else (if z.1 = (0:Int32) then some (.inr (z.1, z.2.1, z.2.2.1, z.2.2.2)) else bd (f_L_cell xs L ((2:Int32) + z.2.1)) (fun (q4 : Int32 × (Unit)) => bd (f_L_low (p4 >>> (z.2.1 &&& 31)) (3:Int32)) (fun (q5 : Int32 × (Unit)) => (if q5.1 = (0:Int32) then bd (f_L_low q4.1 (20:Int32)) (fun (q21 : Int32 × (Unit)) => bd (f_X5_addMember z.2.2.1 z.2.2.2 q21.1) (fun (q22 : Int32 × (StV × PaV)) => (if q22.1 = z.2.1 then bd (f_X5_member q22.2.1 z.2.1 (0:Int32)) (fun (q25 : Int32 × (Unit)) => (if q25.1 = q21.1 then bd (f_X5_member q22.2.1 z.2.1 (1:Int32)) (fun (q28 : Int32 × (Unit)) => (if q28.1 = (-99999:Int32) then bd (f_X5_member q22.2.1 z.2.1 (5:Int32)) (fun (q31 : Int32 × (Unit)) => (if q31.1 = (1:Int32) then lt (z.2.1 + (1:Int32)) (fun (x34 : Int32) => some (.inl ((1:Int32), x34, q22.2.1, q22.2.2))) else lt (z.2.1 + (1:Int32)) (fun (x33 : Int32) => some (.inl ((0:Int32), x33, q22.2.1, q22.2.2))))) else lt (z.2.1 + (1:Int32)) (fun (x30 : Int32) => some (.inl ((0:Int32), x30, q22.2.1, q22.2.2))))) else lt (z.2.1 + (1:Int32)) (fun (x27 : Int32) => some (.inl ((0:Int32), x27, q22.2.1, q22.2.2))))) else lt (z.2.1 + (1:Int32)) (fun (x24 : Int32) => some (.inl ((0:Int32), x24, q22.2.1, q22.2.2)))))) else bd (f_L_low q4.1 (400:Int32)) (fun (q7 : Int32 × (Unit)) => bd (f_X5_addMember z.2.2.1 z.2.2.2 q7.1) (fun (q8 : Int32 × (StV × PaV)) => (if q8.1 = z.2.1 then bd (f_X5_member q8.2.1 z.2.1 (0:Int32)) (fun (q11 : Int32 × (Unit)) => (if q11.1 = q7.1 then bd (f_X5_member q8.2.1 z.2.1 (1:Int32)) (fun (q14 : Int32 × (Unit)) => (if q14.1 = (-99999:Int32) then bd (f_X5_member q8.2.1 z.2.1 (5:Int32)) (fun (q17 : Int32 × (Unit)) => (if q17.1 = (1:Int32) then lt (z.2.1 + (1:Int32)) (fun (x20 : Int32) => some (.inl ((1:Int32), x20, q8.2.1, q8.2.2))) else lt (z.2.1 + (1:Int32)) (fun (x19 : Int32) => some (.inl ((0:Int32), x19, q8.2.1, q8.2.2))))) else lt (z.2.1 + (1:Int32)) (fun (x16 : Int32) => some (.inl ((0:Int32), x16, q8.2.1, q8.2.2))))) else lt (z.2.1 + (1:Int32)) (fun (x13 : Int32) => some (.inl ((0:Int32), x13, q8.2.1, q8.2.2))))) else lt (z.2.1 + (1:Int32)) (fun (x10 : Int32) => some (.inl ((0:Int32), x10, q8.2.1, q8.2.2)))))))))))
def b_L_build_116 (xs : Nat → Int32) (L : Nat) (p2 : Int32) (z : (Int32 × Int32 × StV × PaV)) : Option ((Int32 × Int32 × StV × PaV) ⊕ (Int32 × Int32 × StV × PaV)) := (if p2 ≤ z.2.1 then some (.inr (z.1, z.2.1, z.2.2.1, z.2.2.2)) else (if z.1 = (0:Int32) then some (.inr (z.1, z.2.1, z.2.2.1, z.2.2.2)) else (if p2 ≤ (1:Int32) then some (.inr (z.1, z.2.1, z.2.2.1, z.2.2.2)) else bd (f_L_cell xs L ((10:Int32) + z.2.1)) (fun (q39 : Int32 × (Unit)) => bd (f_L_low q39.1 (2:Int32)) (fun (q40 : Int32 × (Unit)) => (if q40.1 = (0:Int32) then bd (f_L_low (q39.1 >>> ((1:Int32) &&& 31)) (p2 - (1:Int32))) (fun (q43 : Int32 × (Unit)) => gz p2 (lt (((z.2.1 + (1:Int32)) + q43.1) - ((z.2.1 + (1:Int32)) + q43.1) / p2 * p2) (fun (x45 : Int32) => bd (f_X5_setGuarantor z.2.2.1 z.2.2.2 z.2.1 x45) (fun (q46 : Int32 × (StV × PaV)) => (if q46.1 = (-99999:Int32) then bd (f_X5_member q46.2.1 z.2.1 (1:Int32)) (fun (q49 : Int32 × (Unit)) => (if q49.1 = x45 then lt (z.2.1 + (1:Int32)) (fun (x52 : Int32) => some (.inl ((1:Int32), x52, q46.2.1, q46.2.2))) else lt (z.2.1 + (1:Int32)) (fun (x51 : Int32) => some (.inl ((0:Int32), x51, q46.2.1, q46.2.2))))) else lt (z.2.1 + (1:Int32)) (fun (x48 : Int32) => some (.inl ((0:Int32), x48, q46.2.1, q46.2.2)))))))) else lt (z.2.1 + (1:Int32)) (fun (x42 : Int32) => some (.inl (z.1, x42, z.2.2.1, z.2.2.2)))))))))
def f_L_build (xs : Nat → Int32) (L : Nat) (v1 : StV) (v7 : PaV) (i2 : Int32) : Option (Int32 × (StV × PaV)) := bd (f_L_cell xs L (1:Int32)) (fun (q1 : Int32 × (Unit)) => bd (lp (b_L_build_12 xs L i2 q1.1) FU ((1:Int32), (0:Int32), v1, v7)) (fun (e35 : (Int32 × Int32 × StV × PaV)) => bd (lp (b_L_build_116 xs L i2) FU (e35.1, (0:Int32), e35.2.2.1, e35.2.2.2)) (fun (e53 : (Int32 × Int32 × StV × PaV)) => gb e53.1 (some (e53.1, (e53.2.2.1, e53.2.2.2))))))
def b_L_sum_5 (v1 : StV) (p1 : Int32) (p2 : Int32) (z : (Int32 × Int32)) : Option ((Int32 × Int32) ⊕ (Int32 × Int32)) := (if p1 ≤ z.2 then some (.inr (z.1, z.2)) else bd (f_X5_member v1 z.2 p2) (fun (q2 : Int32 × (Unit)) => lt (z.1 + q2.1) (fun (x3 : Int32) => lt (z.2 + (1:Int32)) (fun (x4 : Int32) => some (.inl (x3, x4))))))
def f_L_sum (v1 : StV) (i1 : Int32) (i2 : Int32) : Option (Int32 × (Unit)) := bd (lp (b_L_sum_5 v1 i1 i2) FU ((0:Int32), (0:Int32))) (fun (e5 : (Int32 × Int32)) => some (e5.1, ()))
def b_L_addUp_16 (v1 : StV) (p1 : Int32) (p3 : Int32) (p4 : Int32) (z : (Int32 × Int32)) : Option ((Int32 × Int32) ⊕ (Int32 × Int32)) := (if p1 ≤ z.2 then some (.inr (z.1, z.2)) else (if p4 = z.2 then lt (z.1 + (0:Int32)) (fun (x7 : Int32) => lt (z.2 + (1:Int32)) (fun (x8 : Int32) => some (.inl (x7, x8)))) else bd (f_X5_owes v1 p4 z.2) (fun (q4 : Int32 × (Unit)) => lt (z.1 + q4.1) (fun (x5 : Int32) => lt (z.2 + (1:Int32)) (fun (x6 : Int32) => some (.inl (x5, x6)))))))
def b_L_addUp_7 (v1 : StV) (p1 : Int32) (z : (Int32 × Int32 × Int32)) : Option ((Int32 × Int32 × Int32) ⊕ ((Int32 × Int32 × Int32) ⊕ (Int32 × (Unit)))) := (if p1 ≤ z.2.2 then some (.inr (.inl (z.1, z.2.1, z.2.2))) else bd (lp (b_L_addUp_16 v1 p1 z.2.1 z.2.2) FU (z.1, (0:Int32))) (fun (e9 : (Int32 × Int32)) => bd (f_X5_member v1 z.2.2 (5:Int32)) (fun (q10 : Int32 × (Unit)) => (if q10.1 = (1:Int32) then bd (f_X5_member v1 z.2.2 (4:Int32)) (fun (q30 : Int32 × (Unit)) => (if q30.1 = (0:Int32) then lt (z.2.1 + (1:Int32)) (fun (x50 : Int32) => bd (f_X5_chain v1 z.2.2) (fun (q51 : Int32 × (Unit)) => bd (f_X5_member v1 z.2.2 (1:Int32)) (fun (q52 : Int32 × (Unit)) => bd (f_X5_member v1 z.2.2 (0:Int32)) (fun (q53 : Int32 × (Unit)) => (if q53.1 < (0:Int32) then some (.inr (.inr ((0:Int32), ()))) else (if q51.1 < (1:Int32) then some (.inr (.inr ((0:Int32), ()))) else (if p1 < q51.1 then some (.inr (.inr ((0:Int32), ()))) else (if q52.1 = (-99999:Int32) then (if q51.1 = (1:Int32) then (if (1:Int32) = (1:Int32) then lt (z.2.2 + (1:Int32)) (fun (x67 : Int32) => some (.inl (e9.1, x50, x67))) else some (.inr (.inr ((0:Int32), ())))) else (if (1:Int32) = (0:Int32) then lt (z.2.2 + (1:Int32)) (fun (x65 : Int32) => some (.inl (e9.1, x50, x65))) else some (.inr (.inr ((0:Int32), ()))))) else (if q51.1 = (1:Int32) then (if (0:Int32) = (1:Int32) then lt (z.2.2 + (1:Int32)) (fun (x62 : Int32) => some (.inl (e9.1, x50, x62))) else some (.inr (.inr ((0:Int32), ())))) else (if (0:Int32) = (0:Int32) then lt (z.2.2 + (1:Int32)) (fun (x60 : Int32) => some (.inl (e9.1, x50, x60))) else some (.inr (.inr ((0:Int32), ()))))))))))))) else lt (z.2.1 + (0:Int32)) (fun (x32 : Int32) => bd (f_X5_chain v1 z.2.2) (fun (q33 : Int32 × (Unit)) => bd (f_X5_member v1 z.2.2 (1:Int32)) (fun (q34 : Int32 × (Unit)) => bd (f_X5_member v1 z.2.2 (0:Int32)) (fun (q35 : Int32 × (Unit)) => (if q35.1 < (0:Int32) then some (.inr (.inr ((0:Int32), ()))) else (if q33.1 < (1:Int32) then some (.inr (.inr ((0:Int32), ()))) else (if p1 < q33.1 then some (.inr (.inr ((0:Int32), ()))) else (if q34.1 = (-99999:Int32) then (if q33.1 = (1:Int32) then (if (1:Int32) = (1:Int32) then lt (z.2.2 + (1:Int32)) (fun (x49 : Int32) => some (.inl (e9.1, x32, x49))) else some (.inr (.inr ((0:Int32), ())))) else (if (1:Int32) = (0:Int32) then lt (z.2.2 + (1:Int32)) (fun (x47 : Int32) => some (.inl (e9.1, x32, x47))) else some (.inr (.inr ((0:Int32), ()))))) else (if q33.1 = (1:Int32) then (if (0:Int32) = (1:Int32) then lt (z.2.2 + (1:Int32)) (fun (x44 : Int32) => some (.inl (e9.1, x32, x44))) else some (.inr (.inr ((0:Int32), ())))) else (if (0:Int32) = (0:Int32) then lt (z.2.2 + (1:Int32)) (fun (x42 : Int32) => some (.inl (e9.1, x32, x42))) else some (.inr (.inr ((0:Int32), ()))))))))))))))) else lt (z.2.1 + (0:Int32)) (fun (x12 : Int32) => bd (f_X5_chain v1 z.2.2) (fun (q13 : Int32 × (Unit)) => bd (f_X5_member v1 z.2.2 (1:Int32)) (fun (q14 : Int32 × (Unit)) => bd (f_X5_member v1 z.2.2 (0:Int32)) (fun (q15 : Int32 × (Unit)) => (if q15.1 < (0:Int32) then some (.inr (.inr ((0:Int32), ()))) else (if q13.1 < (1:Int32) then some (.inr (.inr ((0:Int32), ()))) else (if p1 < q13.1 then some (.inr (.inr ((0:Int32), ()))) else (if q14.1 = (-99999:Int32) then (if q13.1 = (1:Int32) then (if (1:Int32) = (1:Int32) then lt (z.2.2 + (1:Int32)) (fun (x29 : Int32) => some (.inl (e9.1, x12, x29))) else some (.inr (.inr ((0:Int32), ())))) else (if (1:Int32) = (0:Int32) then lt (z.2.2 + (1:Int32)) (fun (x27 : Int32) => some (.inl (e9.1, x12, x27))) else some (.inr (.inr ((0:Int32), ()))))) else (if q13.1 = (1:Int32) then (if (0:Int32) = (1:Int32) then lt (z.2.2 + (1:Int32)) (fun (x24 : Int32) => some (.inl (e9.1, x12, x24))) else some (.inr (.inr ((0:Int32), ())))) else (if (0:Int32) = (0:Int32) then lt (z.2.2 + (1:Int32)) (fun (x22 : Int32) => some (.inl (e9.1, x12, x22))) else some (.inr (.inr ((0:Int32), ())))))))))))))))))
def f_L_addUp (v1 : StV) (i1 : Int32) : Option (Int32 × (Unit)) := bd (lp (b_L_addUp_7 v1 i1) FU ((0:Int32), (0:Int32), (0:Int32))) (fun (e68 : ((Int32 × Int32 × Int32) ⊕ (Int32 × (Unit)))) => el e68 (fun (s69 : (Int32 × Int32 × Int32)) => bd (f_X5_about v1 (4:Int32)) (fun (q71 : Int32 × (Unit)) => (if q71.1 < (0:Int32) then some ((0:Int32), ()) else bd (f_X5_about v1 (4:Int32)) (fun (q73 : Int32 × (Unit)) => bd (f_X5_about v1 (5:Int32)) (fun (q74 : Int32 × (Unit)) => bd (f_X5_about v1 (8:Int32)) (fun (q75 : Int32 × (Unit)) => (if (q73.1 + q74.1) = q75.1 then bd (f_X5_about v1 (5:Int32)) (fun (q77 : Int32 × (Unit)) => bd (f_L_sum v1 i1 (0:Int32)) (fun (q78 : Int32 × (Unit)) => (if q77.1 = q78.1 then bd (f_X5_about v1 (1:Int32)) (fun (q80 : Int32 × (Unit)) => bd (f_L_sum v1 i1 (5:Int32)) (fun (q81 : Int32 × (Unit)) => (if q80.1 = q81.1 then bd (f_X5_about v1 (6:Int32)) (fun (q83 : Int32 × (Unit)) => (if q83.1 = s69.2.1 then bd (f_X5_about v1 (7:Int32)) (fun (q85 : Int32 × (Unit)) => (if q85.1 = s69.1 then some ((1:Int32), ()) else some ((0:Int32), ()))) else some ((0:Int32), ()))) else some ((0:Int32), ())))) else some ((0:Int32), ())))) else some ((0:Int32), ())))))))) (fun r => r))
def b_L_prepare_5 (p1 : Int32) (p2 : Int32) (z : (Int32 × Int32 × StV × PaV)) : Option ((Int32 × Int32 × StV × PaV) ⊕ (Int32 × Int32 × StV × PaV)) := (if p1 ≤ z.2.1 then some (.inr (z.1, z.2.1, z.2.2.1, z.2.2.2)) else (if z.1 = (0:Int32) then some (.inr (z.1, z.2.1, z.2.2.1, z.2.2.2)) else lt (p2 >>> (((3:Int32) * z.2.1) &&& 31)) (fun (x3 : Int32) => bd (f_X5_member z.2.2.1 z.2.1 (5:Int32)) (fun (q4 : Int32 × (Unit)) => (if q4.1 = (1:Int32) then bd (f_X5_member z.2.2.1 z.2.1 (4:Int32)) (fun (q89 : Int32 × (Unit)) => (if q89.1 = (0:Int32) then (if (1:Int32) = (0:Int32) then bd (f_L_low (x3 >>> ((2:Int32) &&& 31)) (7:Int32)) (fun (q175 : Int32 × (Unit)) => (if q175.1 = (0:Int32) then bd (f_X5_member z.2.2.1 z.2.1 (3:Int32)) (fun (q178 : Int32 × (Unit)) => (if q178.1 = (0:Int32) then (if z.1 = (0:Int32) then lt (z.2.1 + (1:Int32)) (fun (x182 : Int32) => some (.inl ((0:Int32), x182, z.2.2.1, z.2.2.2))) else bd (f_X5_stayAway z.2.2.1 z.2.2.2 z.2.1 (1:Int32)) (fun (q183 : Int32 × (StV × PaV)) => (if q183.1 = (0:Int32) then bd (f_X5_member q183.2.1 z.2.1 (3:Int32)) (fun (q186 : Int32 × (Unit)) => (if q186.1 = (1:Int32) then lt (z.2.1 + (1:Int32)) (fun (x189 : Int32) => some (.inl ((1:Int32), x189, q183.2.1, q183.2.2))) else lt (z.2.1 + (1:Int32)) (fun (x188 : Int32) => some (.inl ((0:Int32), x188, q183.2.1, q183.2.2))))) else lt (z.2.1 + (1:Int32)) (fun (x185 : Int32) => some (.inl ((0:Int32), x185, q183.2.1, q183.2.2)))))) else lt (z.2.1 + (1:Int32)) (fun (x180 : Int32) => some (.inl (z.1, x180, z.2.2.1, z.2.2.2))))) else lt (z.2.1 + (1:Int32)) (fun (x177 : Int32) => some (.inl (z.1, x177, z.2.2.1, z.2.2.2))))) else bd (f_L_low x3 (2:Int32)) (fun (q190 : Int32 × (Unit)) => (if q190.1 = (0:Int32) then bd (f_L_low (x3 >>> ((1:Int32) &&& 31)) (60:Int32)) (fun (q207 : Int32 × (Unit)) => bd (f_X5_bid z.2.2.1 z.2.2.2 z.2.1 q207.1) (fun (q208 : Int32 × (StV × PaV)) => (if q208.1 = (0:Int32) then bd (f_X5_member q208.2.1 z.2.1 (2:Int32)) (fun (q225 : Int32 × (Unit)) => (if q225.1 = q207.1 then bd (f_L_low (x3 >>> ((2:Int32) &&& 31)) (7:Int32)) (fun (q242 : Int32 × (Unit)) => (if q242.1 = (0:Int32) then bd (f_X5_member q208.2.1 z.2.1 (3:Int32)) (fun (q245 : Int32 × (Unit)) => (if q245.1 = (0:Int32) then (if (1:Int32) = (0:Int32) then lt (z.2.1 + (1:Int32)) (fun (x249 : Int32) => some (.inl ((0:Int32), x249, q208.2.1, q208.2.2))) else bd (f_X5_stayAway q208.2.1 q208.2.2 z.2.1 (1:Int32)) (fun (q250 : Int32 × (StV × PaV)) => (if q250.1 = (0:Int32) then bd (f_X5_member q250.2.1 z.2.1 (3:Int32)) (fun (q253 : Int32 × (Unit)) => (if q253.1 = (1:Int32) then lt (z.2.1 + (1:Int32)) (fun (x256 : Int32) => some (.inl ((1:Int32), x256, q250.2.1, q250.2.2))) else lt (z.2.1 + (1:Int32)) (fun (x255 : Int32) => some (.inl ((0:Int32), x255, q250.2.1, q250.2.2))))) else lt (z.2.1 + (1:Int32)) (fun (x252 : Int32) => some (.inl ((0:Int32), x252, q250.2.1, q250.2.2)))))) else lt (z.2.1 + (1:Int32)) (fun (x247 : Int32) => some (.inl ((1:Int32), x247, q208.2.1, q208.2.2))))) else lt (z.2.1 + (1:Int32)) (fun (x244 : Int32) => some (.inl ((1:Int32), x244, q208.2.1, q208.2.2))))) else bd (f_L_low (x3 >>> ((2:Int32) &&& 31)) (7:Int32)) (fun (q227 : Int32 × (Unit)) => (if q227.1 = (0:Int32) then bd (f_X5_member q208.2.1 z.2.1 (3:Int32)) (fun (q230 : Int32 × (Unit)) => (if q230.1 = (0:Int32) then (if (0:Int32) = (0:Int32) then lt (z.2.1 + (1:Int32)) (fun (x234 : Int32) => some (.inl ((0:Int32), x234, q208.2.1, q208.2.2))) else bd (f_X5_stayAway q208.2.1 q208.2.2 z.2.1 (1:Int32)) (fun (q235 : Int32 × (StV × PaV)) => (if q235.1 = (0:Int32) then bd (f_X5_member q235.2.1 z.2.1 (3:Int32)) (fun (q238 : Int32 × (Unit)) => (if q238.1 = (1:Int32) then lt (z.2.1 + (1:Int32)) (fun (x241 : Int32) => some (.inl ((1:Int32), x241, q235.2.1, q235.2.2))) else lt (z.2.1 + (1:Int32)) (fun (x240 : Int32) => some (.inl ((0:Int32), x240, q235.2.1, q235.2.2))))) else lt (z.2.1 + (1:Int32)) (fun (x237 : Int32) => some (.inl ((0:Int32), x237, q235.2.1, q235.2.2)))))) else lt (z.2.1 + (1:Int32)) (fun (x232 : Int32) => some (.inl ((0:Int32), x232, q208.2.1, q208.2.2))))) else lt (z.2.1 + (1:Int32)) (fun (x229 : Int32) => some (.inl ((0:Int32), x229, q208.2.1, q208.2.2))))))) else bd (f_L_low (x3 >>> ((2:Int32) &&& 31)) (7:Int32)) (fun (q210 : Int32 × (Unit)) => (if q210.1 = (0:Int32) then bd (f_X5_member q208.2.1 z.2.1 (3:Int32)) (fun (q213 : Int32 × (Unit)) => (if q213.1 = (0:Int32) then (if (0:Int32) = (0:Int32) then lt (z.2.1 + (1:Int32)) (fun (x217 : Int32) => some (.inl ((0:Int32), x217, q208.2.1, q208.2.2))) else bd (f_X5_stayAway q208.2.1 q208.2.2 z.2.1 (1:Int32)) (fun (q218 : Int32 × (StV × PaV)) => (if q218.1 = (0:Int32) then bd (f_X5_member q218.2.1 z.2.1 (3:Int32)) (fun (q221 : Int32 × (Unit)) => (if q221.1 = (1:Int32) then lt (z.2.1 + (1:Int32)) (fun (x224 : Int32) => some (.inl ((1:Int32), x224, q218.2.1, q218.2.2))) else lt (z.2.1 + (1:Int32)) (fun (x223 : Int32) => some (.inl ((0:Int32), x223, q218.2.1, q218.2.2))))) else lt (z.2.1 + (1:Int32)) (fun (x220 : Int32) => some (.inl ((0:Int32), x220, q218.2.1, q218.2.2)))))) else lt (z.2.1 + (1:Int32)) (fun (x215 : Int32) => some (.inl ((0:Int32), x215, q208.2.1, q208.2.2))))) else lt (z.2.1 + (1:Int32)) (fun (x212 : Int32) => some (.inl ((0:Int32), x212, q208.2.1, q208.2.2)))))))) else bd (f_L_low (x3 >>> ((2:Int32) &&& 31)) (7:Int32)) (fun (q192 : Int32 × (Unit)) => (if q192.1 = (0:Int32) then bd (f_X5_member z.2.2.1 z.2.1 (3:Int32)) (fun (q195 : Int32 × (Unit)) => (if q195.1 = (0:Int32) then (if z.1 = (0:Int32) then lt (z.2.1 + (1:Int32)) (fun (x199 : Int32) => some (.inl ((0:Int32), x199, z.2.2.1, z.2.2.2))) else bd (f_X5_stayAway z.2.2.1 z.2.2.2 z.2.1 (1:Int32)) (fun (q200 : Int32 × (StV × PaV)) => (if q200.1 = (0:Int32) then bd (f_X5_member q200.2.1 z.2.1 (3:Int32)) (fun (q203 : Int32 × (Unit)) => (if q203.1 = (1:Int32) then lt (z.2.1 + (1:Int32)) (fun (x206 : Int32) => some (.inl ((1:Int32), x206, q200.2.1, q200.2.2))) else lt (z.2.1 + (1:Int32)) (fun (x205 : Int32) => some (.inl ((0:Int32), x205, q200.2.1, q200.2.2))))) else lt (z.2.1 + (1:Int32)) (fun (x202 : Int32) => some (.inl ((0:Int32), x202, q200.2.1, q200.2.2)))))) else lt (z.2.1 + (1:Int32)) (fun (x197 : Int32) => some (.inl (z.1, x197, z.2.2.1, z.2.2.2))))) else lt (z.2.1 + (1:Int32)) (fun (x194 : Int32) => some (.inl (z.1, x194, z.2.2.1, z.2.2.2)))))))) else (if (0:Int32) = (0:Int32) then bd (f_L_low (x3 >>> ((2:Int32) &&& 31)) (7:Int32)) (fun (q92 : Int32 × (Unit)) => (if q92.1 = (0:Int32) then bd (f_X5_member z.2.2.1 z.2.1 (3:Int32)) (fun (q95 : Int32 × (Unit)) => (if q95.1 = (0:Int32) then (if z.1 = (0:Int32) then lt (z.2.1 + (1:Int32)) (fun (x99 : Int32) => some (.inl ((0:Int32), x99, z.2.2.1, z.2.2.2))) else bd (f_X5_stayAway z.2.2.1 z.2.2.2 z.2.1 (1:Int32)) (fun (q100 : Int32 × (StV × PaV)) => (if q100.1 = (0:Int32) then bd (f_X5_member q100.2.1 z.2.1 (3:Int32)) (fun (q103 : Int32 × (Unit)) => (if q103.1 = (1:Int32) then lt (z.2.1 + (1:Int32)) (fun (x106 : Int32) => some (.inl ((1:Int32), x106, q100.2.1, q100.2.2))) else lt (z.2.1 + (1:Int32)) (fun (x105 : Int32) => some (.inl ((0:Int32), x105, q100.2.1, q100.2.2))))) else lt (z.2.1 + (1:Int32)) (fun (x102 : Int32) => some (.inl ((0:Int32), x102, q100.2.1, q100.2.2)))))) else lt (z.2.1 + (1:Int32)) (fun (x97 : Int32) => some (.inl (z.1, x97, z.2.2.1, z.2.2.2))))) else lt (z.2.1 + (1:Int32)) (fun (x94 : Int32) => some (.inl (z.1, x94, z.2.2.1, z.2.2.2))))) else bd (f_L_low x3 (2:Int32)) (fun (q107 : Int32 × (Unit)) => (if q107.1 = (0:Int32) then bd (f_L_low (x3 >>> ((1:Int32) &&& 31)) (60:Int32)) (fun (q124 : Int32 × (Unit)) => bd (f_X5_bid z.2.2.1 z.2.2.2 z.2.1 q124.1) (fun (q125 : Int32 × (StV × PaV)) => (if q125.1 = (0:Int32) then bd (f_X5_member q125.2.1 z.2.1 (2:Int32)) (fun (q142 : Int32 × (Unit)) => (if q142.1 = q124.1 then bd (f_L_low (x3 >>> ((2:Int32) &&& 31)) (7:Int32)) (fun (q159 : Int32 × (Unit)) => (if q159.1 = (0:Int32) then bd (f_X5_member q125.2.1 z.2.1 (3:Int32)) (fun (q162 : Int32 × (Unit)) => (if q162.1 = (0:Int32) then (if (1:Int32) = (0:Int32) then lt (z.2.1 + (1:Int32)) (fun (x166 : Int32) => some (.inl ((0:Int32), x166, q125.2.1, q125.2.2))) else bd (f_X5_stayAway q125.2.1 q125.2.2 z.2.1 (1:Int32)) (fun (q167 : Int32 × (StV × PaV)) => (if q167.1 = (0:Int32) then bd (f_X5_member q167.2.1 z.2.1 (3:Int32)) (fun (q170 : Int32 × (Unit)) => (if q170.1 = (1:Int32) then lt (z.2.1 + (1:Int32)) (fun (x173 : Int32) => some (.inl ((1:Int32), x173, q167.2.1, q167.2.2))) else lt (z.2.1 + (1:Int32)) (fun (x172 : Int32) => some (.inl ((0:Int32), x172, q167.2.1, q167.2.2))))) else lt (z.2.1 + (1:Int32)) (fun (x169 : Int32) => some (.inl ((0:Int32), x169, q167.2.1, q167.2.2)))))) else lt (z.2.1 + (1:Int32)) (fun (x164 : Int32) => some (.inl ((1:Int32), x164, q125.2.1, q125.2.2))))) else lt (z.2.1 + (1:Int32)) (fun (x161 : Int32) => some (.inl ((1:Int32), x161, q125.2.1, q125.2.2))))) else bd (f_L_low (x3 >>> ((2:Int32) &&& 31)) (7:Int32)) (fun (q144 : Int32 × (Unit)) => (if q144.1 = (0:Int32) then bd (f_X5_member q125.2.1 z.2.1 (3:Int32)) (fun (q147 : Int32 × (Unit)) => (if q147.1 = (0:Int32) then (if (0:Int32) = (0:Int32) then lt (z.2.1 + (1:Int32)) (fun (x151 : Int32) => some (.inl ((0:Int32), x151, q125.2.1, q125.2.2))) else bd (f_X5_stayAway q125.2.1 q125.2.2 z.2.1 (1:Int32)) (fun (q152 : Int32 × (StV × PaV)) => (if q152.1 = (0:Int32) then bd (f_X5_member q152.2.1 z.2.1 (3:Int32)) (fun (q155 : Int32 × (Unit)) => (if q155.1 = (1:Int32) then lt (z.2.1 + (1:Int32)) (fun (x158 : Int32) => some (.inl ((1:Int32), x158, q152.2.1, q152.2.2))) else lt (z.2.1 + (1:Int32)) (fun (x157 : Int32) => some (.inl ((0:Int32), x157, q152.2.1, q152.2.2))))) else lt (z.2.1 + (1:Int32)) (fun (x154 : Int32) => some (.inl ((0:Int32), x154, q152.2.1, q152.2.2)))))) else lt (z.2.1 + (1:Int32)) (fun (x149 : Int32) => some (.inl ((0:Int32), x149, q125.2.1, q125.2.2))))) else lt (z.2.1 + (1:Int32)) (fun (x146 : Int32) => some (.inl ((0:Int32), x146, q125.2.1, q125.2.2))))))) else bd (f_L_low (x3 >>> ((2:Int32) &&& 31)) (7:Int32)) (fun (q127 : Int32 × (Unit)) => (if q127.1 = (0:Int32) then bd (f_X5_member q125.2.1 z.2.1 (3:Int32)) (fun (q130 : Int32 × (Unit)) => (if q130.1 = (0:Int32) then (if (0:Int32) = (0:Int32) then lt (z.2.1 + (1:Int32)) (fun (x134 : Int32) => some (.inl ((0:Int32), x134, q125.2.1, q125.2.2))) else bd (f_X5_stayAway q125.2.1 q125.2.2 z.2.1 (1:Int32)) (fun (q135 : Int32 × (StV × PaV)) => (if q135.1 = (0:Int32) then bd (f_X5_member q135.2.1 z.2.1 (3:Int32)) (fun (q138 : Int32 × (Unit)) => (if q138.1 = (1:Int32) then lt (z.2.1 + (1:Int32)) (fun (x141 : Int32) => some (.inl ((1:Int32), x141, q135.2.1, q135.2.2))) else lt (z.2.1 + (1:Int32)) (fun (x140 : Int32) => some (.inl ((0:Int32), x140, q135.2.1, q135.2.2))))) else lt (z.2.1 + (1:Int32)) (fun (x137 : Int32) => some (.inl ((0:Int32), x137, q135.2.1, q135.2.2)))))) else lt (z.2.1 + (1:Int32)) (fun (x132 : Int32) => some (.inl ((0:Int32), x132, q125.2.1, q125.2.2))))) else lt (z.2.1 + (1:Int32)) (fun (x129 : Int32) => some (.inl ((0:Int32), x129, q125.2.1, q125.2.2)))))))) else bd (f_L_low (x3 >>> ((2:Int32) &&& 31)) (7:Int32)) (fun (q109 : Int32 × (Unit)) => (if q109.1 = (0:Int32) then bd (f_X5_member z.2.2.1 z.2.1 (3:Int32)) (fun (q112 : Int32 × (Unit)) => (if q112.1 = (0:Int32) then (if z.1 = (0:Int32) then lt (z.2.1 + (1:Int32)) (fun (x116 : Int32) => some (.inl ((0:Int32), x116, z.2.2.1, z.2.2.2))) else bd (f_X5_stayAway z.2.2.1 z.2.2.2 z.2.1 (1:Int32)) (fun (q117 : Int32 × (StV × PaV)) => (if q117.1 = (0:Int32) then bd (f_X5_member q117.2.1 z.2.1 (3:Int32)) (fun (q120 : Int32 × (Unit)) => (if q120.1 = (1:Int32) then lt (z.2.1 + (1:Int32)) (fun (x123 : Int32) => some (.inl ((1:Int32), x123, q117.2.1, q117.2.2))) else lt (z.2.1 + (1:Int32)) (fun (x122 : Int32) => some (.inl ((0:Int32), x122, q117.2.1, q117.2.2))))) else lt (z.2.1 + (1:Int32)) (fun (x119 : Int32) => some (.inl ((0:Int32), x119, q117.2.1, q117.2.2)))))) else lt (z.2.1 + (1:Int32)) (fun (x114 : Int32) => some (.inl (z.1, x114, z.2.2.1, z.2.2.2))))) else lt (z.2.1 + (1:Int32)) (fun (x111 : Int32) => some (.inl (z.1, x111, z.2.2.1, z.2.2.2)))))))))) else (if (0:Int32) = (0:Int32) then bd (f_L_low (x3 >>> ((2:Int32) &&& 31)) (7:Int32)) (fun (q7 : Int32 × (Unit)) => (if q7.1 = (0:Int32) then bd (f_X5_member z.2.2.1 z.2.1 (3:Int32)) (fun (q10 : Int32 × (Unit)) => (if q10.1 = (0:Int32) then (if z.1 = (0:Int32) then lt (z.2.1 + (1:Int32)) (fun (x14 : Int32) => some (.inl ((0:Int32), x14, z.2.2.1, z.2.2.2))) else bd (f_X5_stayAway z.2.2.1 z.2.2.2 z.2.1 (1:Int32)) (fun (q15 : Int32 × (StV × PaV)) => (if q15.1 = (0:Int32) then bd (f_X5_member q15.2.1 z.2.1 (3:Int32)) (fun (q18 : Int32 × (Unit)) => (if q18.1 = (1:Int32) then lt (z.2.1 + (1:Int32)) (fun (x21 : Int32) => some (.inl ((1:Int32), x21, q15.2.1, q15.2.2))) else lt (z.2.1 + (1:Int32)) (fun (x20 : Int32) => some (.inl ((0:Int32), x20, q15.2.1, q15.2.2))))) else lt (z.2.1 + (1:Int32)) (fun (x17 : Int32) => some (.inl ((0:Int32), x17, q15.2.1, q15.2.2)))))) else lt (z.2.1 + (1:Int32)) (fun (x12 : Int32) => some (.inl (z.1, x12, z.2.2.1, z.2.2.2))))) else lt (z.2.1 + (1:Int32)) (fun (x9 : Int32) => some (.inl (z.1, x9, z.2.2.1, z.2.2.2))))) else bd (f_L_low x3 (2:Int32)) (fun (q22 : Int32 × (Unit)) => (if q22.1 = (0:Int32) then bd (f_L_low (x3 >>> ((1:Int32) &&& 31)) (60:Int32)) (fun (q39 : Int32 × (Unit)) => bd (f_X5_bid z.2.2.1 z.2.2.2 z.2.1 q39.1) (fun (q40 : Int32 × (StV × PaV)) => (if q40.1 = (0:Int32) then bd (f_X5_member q40.2.1 z.2.1 (2:Int32)) (fun (q57 : Int32 × (Unit)) => (if q57.1 = q39.1 then bd (f_L_low (x3 >>> ((2:Int32) &&& 31)) (7:Int32)) (fun (q74 : Int32 × (Unit)) => (if q74.1 = (0:Int32) then bd (f_X5_member q40.2.1 z.2.1 (3:Int32)) (fun (q77 : Int32 × (Unit)) => (if q77.1 = (0:Int32) then (if (1:Int32) = (0:Int32) then lt (z.2.1 + (1:Int32)) (fun (x81 : Int32) => some (.inl ((0:Int32), x81, q40.2.1, q40.2.2))) else bd (f_X5_stayAway q40.2.1 q40.2.2 z.2.1 (1:Int32)) (fun (q82 : Int32 × (StV × PaV)) => (if q82.1 = (0:Int32) then bd (f_X5_member q82.2.1 z.2.1 (3:Int32)) (fun (q85 : Int32 × (Unit)) => (if q85.1 = (1:Int32) then lt (z.2.1 + (1:Int32)) (fun (x88 : Int32) => some (.inl ((1:Int32), x88, q82.2.1, q82.2.2))) else lt (z.2.1 + (1:Int32)) (fun (x87 : Int32) => some (.inl ((0:Int32), x87, q82.2.1, q82.2.2))))) else lt (z.2.1 + (1:Int32)) (fun (x84 : Int32) => some (.inl ((0:Int32), x84, q82.2.1, q82.2.2)))))) else lt (z.2.1 + (1:Int32)) (fun (x79 : Int32) => some (.inl ((1:Int32), x79, q40.2.1, q40.2.2))))) else lt (z.2.1 + (1:Int32)) (fun (x76 : Int32) => some (.inl ((1:Int32), x76, q40.2.1, q40.2.2))))) else bd (f_L_low (x3 >>> ((2:Int32) &&& 31)) (7:Int32)) (fun (q59 : Int32 × (Unit)) => (if q59.1 = (0:Int32) then bd (f_X5_member q40.2.1 z.2.1 (3:Int32)) (fun (q62 : Int32 × (Unit)) => (if q62.1 = (0:Int32) then (if (0:Int32) = (0:Int32) then lt (z.2.1 + (1:Int32)) (fun (x66 : Int32) => some (.inl ((0:Int32), x66, q40.2.1, q40.2.2))) else bd (f_X5_stayAway q40.2.1 q40.2.2 z.2.1 (1:Int32)) (fun (q67 : Int32 × (StV × PaV)) => (if q67.1 = (0:Int32) then bd (f_X5_member q67.2.1 z.2.1 (3:Int32)) (fun (q70 : Int32 × (Unit)) => (if q70.1 = (1:Int32) then lt (z.2.1 + (1:Int32)) (fun (x73 : Int32) => some (.inl ((1:Int32), x73, q67.2.1, q67.2.2))) else lt (z.2.1 + (1:Int32)) (fun (x72 : Int32) => some (.inl ((0:Int32), x72, q67.2.1, q67.2.2))))) else lt (z.2.1 + (1:Int32)) (fun (x69 : Int32) => some (.inl ((0:Int32), x69, q67.2.1, q67.2.2)))))) else lt (z.2.1 + (1:Int32)) (fun (x64 : Int32) => some (.inl ((0:Int32), x64, q40.2.1, q40.2.2))))) else lt (z.2.1 + (1:Int32)) (fun (x61 : Int32) => some (.inl ((0:Int32), x61, q40.2.1, q40.2.2))))))) else bd (f_L_low (x3 >>> ((2:Int32) &&& 31)) (7:Int32)) (fun (q42 : Int32 × (Unit)) => (if q42.1 = (0:Int32) then bd (f_X5_member q40.2.1 z.2.1 (3:Int32)) (fun (q45 : Int32 × (Unit)) => (if q45.1 = (0:Int32) then (if (0:Int32) = (0:Int32) then lt (z.2.1 + (1:Int32)) (fun (x49 : Int32) => some (.inl ((0:Int32), x49, q40.2.1, q40.2.2))) else bd (f_X5_stayAway q40.2.1 q40.2.2 z.2.1 (1:Int32)) (fun (q50 : Int32 × (StV × PaV)) => (if q50.1 = (0:Int32) then bd (f_X5_member q50.2.1 z.2.1 (3:Int32)) (fun (q53 : Int32 × (Unit)) => (if q53.1 = (1:Int32) then lt (z.2.1 + (1:Int32)) (fun (x56 : Int32) => some (.inl ((1:Int32), x56, q50.2.1, q50.2.2))) else lt (z.2.1 + (1:Int32)) (fun (x55 : Int32) => some (.inl ((0:Int32), x55, q50.2.1, q50.2.2))))) else lt (z.2.1 + (1:Int32)) (fun (x52 : Int32) => some (.inl ((0:Int32), x52, q50.2.1, q50.2.2)))))) else lt (z.2.1 + (1:Int32)) (fun (x47 : Int32) => some (.inl ((0:Int32), x47, q40.2.1, q40.2.2))))) else lt (z.2.1 + (1:Int32)) (fun (x44 : Int32) => some (.inl ((0:Int32), x44, q40.2.1, q40.2.2)))))))) else bd (f_L_low (x3 >>> ((2:Int32) &&& 31)) (7:Int32)) (fun (q24 : Int32 × (Unit)) => (if q24.1 = (0:Int32) then bd (f_X5_member z.2.2.1 z.2.1 (3:Int32)) (fun (q27 : Int32 × (Unit)) => (if q27.1 = (0:Int32) then (if z.1 = (0:Int32) then lt (z.2.1 + (1:Int32)) (fun (x31 : Int32) => some (.inl ((0:Int32), x31, z.2.2.1, z.2.2.2))) else bd (f_X5_stayAway z.2.2.1 z.2.2.2 z.2.1 (1:Int32)) (fun (q32 : Int32 × (StV × PaV)) => (if q32.1 = (0:Int32) then bd (f_X5_member q32.2.1 z.2.1 (3:Int32)) (fun (q35 : Int32 × (Unit)) => (if q35.1 = (1:Int32) then lt (z.2.1 + (1:Int32)) (fun (x38 : Int32) => some (.inl ((1:Int32), x38, q32.2.1, q32.2.2))) else lt (z.2.1 + (1:Int32)) (fun (x37 : Int32) => some (.inl ((0:Int32), x37, q32.2.1, q32.2.2))))) else lt (z.2.1 + (1:Int32)) (fun (x34 : Int32) => some (.inl ((0:Int32), x34, q32.2.1, q32.2.2)))))) else lt (z.2.1 + (1:Int32)) (fun (x29 : Int32) => some (.inl (z.1, x29, z.2.2.1, z.2.2.2))))) else lt (z.2.1 + (1:Int32)) (fun (x26 : Int32) => some (.inl (z.1, x26, z.2.2.1, z.2.2.2)))))))))))))
def f_L_prepare (v1 : StV) (v7 : PaV) (i1 : Int32) (i2 : Int32) : Option (Int32 × (StV × PaV)) := bd (lp (b_L_prepare_5 i1 i2) FU ((1:Int32), (0:Int32), v1, v7)) (fun (e257 : (Int32 × Int32 × StV × PaV)) => gb e257.1 (some (e257.1, (e257.2.2.1, e257.2.2.2))))
def f_L_leastBid (v1 : StV) (v2 : StV) (v3 : RdV) (v7 : PaV) (i1 : Int32) : Option (Int32 × (StV × StV × RdV × PaV)) := bd (f_X5_leastBid v1 v2 v3 i1) (fun (q1 : Int32 × (StV × RdV)) => bd (f_X5_member v1 i1 (5:Int32)) (fun (q2 : Int32 × (Unit)) => (if q2.1 = (1:Int32) then bd (f_X5_member v1 i1 (4:Int32)) (fun (q52 : Int32 × (Unit)) => (if q52.1 = (0:Int32) then (if (1:Int32) = (0:Int32) then (if q1.1 = (-99999:Int32) then some ((1:Int32), (v1, q1.2.1, q1.2.2, v7)) else some ((0:Int32), (v1, q1.2.1, q1.2.2, v7))) else bd (f_X5_member v1 i1 (2:Int32)) (fun (q103 : Int32 × (Unit)) => (if q1.1 = (-99999:Int32) then bd (f_X5_bid v1 v7 i1 (999:Int32)) (fun (q143 : Int32 × (StV × PaV)) => (if q143.1 = q103.1 then bd (f_X5_winner q143.2.1 q1.2.1 q1.2.2) (fun (q145 : Int32 × (StV × RdV)) => (if q145.1 = i1 then some ((0:Int32), (q143.2.1, q145.2.1, q145.2.2, q143.2.2)) else bd (f_X5_undo q143.2.1 q143.2.2) (fun (q147 : Int32 × (StV × PaV)) => (if q147.1 < (0:Int32) then some ((0:Int32), (q147.2.1, q145.2.1, q145.2.2, q147.2.2)) else some ((1:Int32), (q147.2.1, q145.2.1, q145.2.2, q147.2.2)))))) else some ((0:Int32), (q143.2.1, q1.2.1, q1.2.2, q143.2.2)))) else bd (f_X5_bid v1 v7 i1 q1.1) (fun (q105 : Int32 × (StV × PaV)) => (if q105.1 = q103.1 then bd (f_X5_winner q105.2.1 q1.2.1 q1.2.2) (fun (q115 : Int32 × (StV × RdV)) => (if q115.1 = i1 then bd (f_X5_undo q105.2.1 q105.2.2) (fun (q125 : Int32 × (StV × PaV)) => (if q125.1 < (0:Int32) then (if (0:Int32) = (0:Int32) then some ((0:Int32), (q125.2.1, q115.2.1, q115.2.2, q125.2.2)) else (if q1.1 = (0:Int32) then some ((1:Int32), (q125.2.1, q115.2.1, q115.2.2, q125.2.2)) else bd (f_X5_bid q125.2.1 q125.2.2 i1 (q1.1 - (1:Int32))) (fun (q129 : Int32 × (StV × PaV)) => (if q129.1 = q103.1 then bd (f_X5_winner q129.2.1 q115.2.1 q115.2.2) (fun (q131 : Int32 × (StV × RdV)) => (if q131.1 = i1 then some ((0:Int32), (q129.2.1, q131.2.1, q131.2.2, q129.2.2)) else bd (f_X5_undo q129.2.1 q129.2.2) (fun (q133 : Int32 × (StV × PaV)) => (if q133.1 < (0:Int32) then some ((0:Int32), (q133.2.1, q131.2.1, q131.2.2, q133.2.2)) else some ((1:Int32), (q133.2.1, q131.2.1, q131.2.2, q133.2.2)))))) else some ((0:Int32), (q129.2.1, q115.2.1, q115.2.2, q129.2.2)))))) else (if (1:Int32) = (0:Int32) then some ((0:Int32), (q125.2.1, q115.2.1, q115.2.2, q125.2.2)) else (if q1.1 = (0:Int32) then some ((1:Int32), (q125.2.1, q115.2.1, q115.2.2, q125.2.2)) else bd (f_X5_bid q125.2.1 q125.2.2 i1 (q1.1 - (1:Int32))) (fun (q137 : Int32 × (StV × PaV)) => (if q137.1 = q103.1 then bd (f_X5_winner q137.2.1 q115.2.1 q115.2.2) (fun (q139 : Int32 × (StV × RdV)) => (if q139.1 = i1 then some ((0:Int32), (q137.2.1, q139.2.1, q139.2.2, q137.2.2)) else bd (f_X5_undo q137.2.1 q137.2.2) (fun (q141 : Int32 × (StV × PaV)) => (if q141.1 < (0:Int32) then some ((0:Int32), (q141.2.1, q139.2.1, q139.2.2, q141.2.2)) else some ((1:Int32), (q141.2.1, q139.2.1, q139.2.2, q141.2.2)))))) else some ((0:Int32), (q137.2.1, q115.2.1, q115.2.2, q137.2.2)))))))) else (if (0:Int32) = (0:Int32) then some ((0:Int32), (q105.2.1, q115.2.1, q115.2.2, q105.2.2)) else (if q1.1 = (0:Int32) then some ((1:Int32), (q105.2.1, q115.2.1, q115.2.2, q105.2.2)) else bd (f_X5_bid q105.2.1 q105.2.2 i1 (q1.1 - (1:Int32))) (fun (q119 : Int32 × (StV × PaV)) => (if q119.1 = q103.1 then bd (f_X5_winner q119.2.1 q115.2.1 q115.2.2) (fun (q121 : Int32 × (StV × RdV)) => (if q121.1 = i1 then some ((0:Int32), (q119.2.1, q121.2.1, q121.2.2, q119.2.2)) else bd (f_X5_undo q119.2.1 q119.2.2) (fun (q123 : Int32 × (StV × PaV)) => (if q123.1 < (0:Int32) then some ((0:Int32), (q123.2.1, q121.2.1, q121.2.2, q123.2.2)) else some ((1:Int32), (q123.2.1, q121.2.1, q121.2.2, q123.2.2)))))) else some ((0:Int32), (q119.2.1, q115.2.1, q115.2.2, q119.2.2)))))))) else (if (0:Int32) = (0:Int32) then some ((0:Int32), (q105.2.1, q1.2.1, q1.2.2, q105.2.2)) else (if q1.1 = (0:Int32) then some ((1:Int32), (q105.2.1, q1.2.1, q1.2.2, q105.2.2)) else bd (f_X5_bid q105.2.1 q105.2.2 i1 (q1.1 - (1:Int32))) (fun (q109 : Int32 × (StV × PaV)) => (if q109.1 = q103.1 then bd (f_X5_winner q109.2.1 q1.2.1 q1.2.2) (fun (q111 : Int32 × (StV × RdV)) => (if q111.1 = i1 then some ((0:Int32), (q109.2.1, q111.2.1, q111.2.2, q109.2.2)) else bd (f_X5_undo q109.2.1 q109.2.2) (fun (q113 : Int32 × (StV × PaV)) => (if q113.1 < (0:Int32) then some ((0:Int32), (q113.2.1, q111.2.1, q111.2.2, q113.2.2)) else some ((1:Int32), (q113.2.1, q111.2.1, q111.2.2, q113.2.2)))))) else some ((0:Int32), (q109.2.1, q1.2.1, q1.2.2, q109.2.2))))))))))) else (if (0:Int32) = (0:Int32) then (if q1.1 = (-99999:Int32) then some ((1:Int32), (v1, q1.2.1, q1.2.2, v7)) else some ((0:Int32), (v1, q1.2.1, q1.2.2, v7))) else bd (f_X5_member v1 i1 (2:Int32)) (fun (q55 : Int32 × (Unit)) => (if q1.1 = (-99999:Int32) then bd (f_X5_bid v1 v7 i1 (999:Int32)) (fun (q95 : Int32 × (StV × PaV)) => (if q95.1 = q55.1 then bd (f_X5_winner q95.2.1 q1.2.1 q1.2.2) (fun (q97 : Int32 × (StV × RdV)) => (if q97.1 = i1 then some ((0:Int32), (q95.2.1, q97.2.1, q97.2.2, q95.2.2)) else bd (f_X5_undo q95.2.1 q95.2.2) (fun (q99 : Int32 × (StV × PaV)) => (if q99.1 < (0:Int32) then some ((0:Int32), (q99.2.1, q97.2.1, q97.2.2, q99.2.2)) else some ((1:Int32), (q99.2.1, q97.2.1, q97.2.2, q99.2.2)))))) else some ((0:Int32), (q95.2.1, q1.2.1, q1.2.2, q95.2.2)))) else bd (f_X5_bid v1 v7 i1 q1.1) (fun (q57 : Int32 × (StV × PaV)) => (if q57.1 = q55.1 then bd (f_X5_winner q57.2.1 q1.2.1 q1.2.2) (fun (q67 : Int32 × (StV × RdV)) => (if q67.1 = i1 then bd (f_X5_undo q57.2.1 q57.2.2) (fun (q77 : Int32 × (StV × PaV)) => (if q77.1 < (0:Int32) then (if (0:Int32) = (0:Int32) then some ((0:Int32), (q77.2.1, q67.2.1, q67.2.2, q77.2.2)) else (if q1.1 = (0:Int32) then some ((1:Int32), (q77.2.1, q67.2.1, q67.2.2, q77.2.2)) else bd (f_X5_bid q77.2.1 q77.2.2 i1 (q1.1 - (1:Int32))) (fun (q81 : Int32 × (StV × PaV)) => (if q81.1 = q55.1 then bd (f_X5_winner q81.2.1 q67.2.1 q67.2.2) (fun (q83 : Int32 × (StV × RdV)) => (if q83.1 = i1 then some ((0:Int32), (q81.2.1, q83.2.1, q83.2.2, q81.2.2)) else bd (f_X5_undo q81.2.1 q81.2.2) (fun (q85 : Int32 × (StV × PaV)) => (if q85.1 < (0:Int32) then some ((0:Int32), (q85.2.1, q83.2.1, q83.2.2, q85.2.2)) else some ((1:Int32), (q85.2.1, q83.2.1, q83.2.2, q85.2.2)))))) else some ((0:Int32), (q81.2.1, q67.2.1, q67.2.2, q81.2.2)))))) else (if (1:Int32) = (0:Int32) then some ((0:Int32), (q77.2.1, q67.2.1, q67.2.2, q77.2.2)) else (if q1.1 = (0:Int32) then some ((1:Int32), (q77.2.1, q67.2.1, q67.2.2, q77.2.2)) else bd (f_X5_bid q77.2.1 q77.2.2 i1 (q1.1 - (1:Int32))) (fun (q89 : Int32 × (StV × PaV)) => (if q89.1 = q55.1 then bd (f_X5_winner q89.2.1 q67.2.1 q67.2.2) (fun (q91 : Int32 × (StV × RdV)) => (if q91.1 = i1 then some ((0:Int32), (q89.2.1, q91.2.1, q91.2.2, q89.2.2)) else bd (f_X5_undo q89.2.1 q89.2.2) (fun (q93 : Int32 × (StV × PaV)) => (if q93.1 < (0:Int32) then some ((0:Int32), (q93.2.1, q91.2.1, q91.2.2, q93.2.2)) else some ((1:Int32), (q93.2.1, q91.2.1, q91.2.2, q93.2.2)))))) else some ((0:Int32), (q89.2.1, q67.2.1, q67.2.2, q89.2.2)))))))) else (if (0:Int32) = (0:Int32) then some ((0:Int32), (q57.2.1, q67.2.1, q67.2.2, q57.2.2)) else (if q1.1 = (0:Int32) then some ((1:Int32), (q57.2.1, q67.2.1, q67.2.2, q57.2.2)) else bd (f_X5_bid q57.2.1 q57.2.2 i1 (q1.1 - (1:Int32))) (fun (q71 : Int32 × (StV × PaV)) => (if q71.1 = q55.1 then bd (f_X5_winner q71.2.1 q67.2.1 q67.2.2) (fun (q73 : Int32 × (StV × RdV)) => (if q73.1 = i1 then some ((0:Int32), (q71.2.1, q73.2.1, q73.2.2, q71.2.2)) else bd (f_X5_undo q71.2.1 q71.2.2) (fun (q75 : Int32 × (StV × PaV)) => (if q75.1 < (0:Int32) then some ((0:Int32), (q75.2.1, q73.2.1, q73.2.2, q75.2.2)) else some ((1:Int32), (q75.2.1, q73.2.1, q73.2.2, q75.2.2)))))) else some ((0:Int32), (q71.2.1, q67.2.1, q67.2.2, q71.2.2)))))))) else (if (0:Int32) = (0:Int32) then some ((0:Int32), (q57.2.1, q1.2.1, q1.2.2, q57.2.2)) else (if q1.1 = (0:Int32) then some ((1:Int32), (q57.2.1, q1.2.1, q1.2.2, q57.2.2)) else bd (f_X5_bid q57.2.1 q57.2.2 i1 (q1.1 - (1:Int32))) (fun (q61 : Int32 × (StV × PaV)) => (if q61.1 = q55.1 then bd (f_X5_winner q61.2.1 q1.2.1 q1.2.2) (fun (q63 : Int32 × (StV × RdV)) => (if q63.1 = i1 then some ((0:Int32), (q61.2.1, q63.2.1, q63.2.2, q61.2.2)) else bd (f_X5_undo q61.2.1 q61.2.2) (fun (q65 : Int32 × (StV × PaV)) => (if q65.1 < (0:Int32) then some ((0:Int32), (q65.2.1, q63.2.1, q63.2.2, q65.2.2)) else some ((1:Int32), (q65.2.1, q63.2.1, q63.2.2, q65.2.2)))))) else some ((0:Int32), (q61.2.1, q1.2.1, q1.2.2, q61.2.2))))))))))))) else (if (0:Int32) = (0:Int32) then (if q1.1 = (-99999:Int32) then some ((1:Int32), (v1, q1.2.1, q1.2.2, v7)) else some ((0:Int32), (v1, q1.2.1, q1.2.2, v7))) else bd (f_X5_member v1 i1 (2:Int32)) (fun (q5 : Int32 × (Unit)) => (if q1.1 = (-99999:Int32) then bd (f_X5_bid v1 v7 i1 (999:Int32)) (fun (q45 : Int32 × (StV × PaV)) => (if q45.1 = q5.1 then bd (f_X5_winner q45.2.1 q1.2.1 q1.2.2) (fun (q47 : Int32 × (StV × RdV)) => (if q47.1 = i1 then some ((0:Int32), (q45.2.1, q47.2.1, q47.2.2, q45.2.2)) else bd (f_X5_undo q45.2.1 q45.2.2) (fun (q49 : Int32 × (StV × PaV)) => (if q49.1 < (0:Int32) then some ((0:Int32), (q49.2.1, q47.2.1, q47.2.2, q49.2.2)) else some ((1:Int32), (q49.2.1, q47.2.1, q47.2.2, q49.2.2)))))) else some ((0:Int32), (q45.2.1, q1.2.1, q1.2.2, q45.2.2)))) else bd (f_X5_bid v1 v7 i1 q1.1) (fun (q7 : Int32 × (StV × PaV)) => (if q7.1 = q5.1 then bd (f_X5_winner q7.2.1 q1.2.1 q1.2.2) (fun (q17 : Int32 × (StV × RdV)) => (if q17.1 = i1 then bd (f_X5_undo q7.2.1 q7.2.2) (fun (q27 : Int32 × (StV × PaV)) => (if q27.1 < (0:Int32) then (if (0:Int32) = (0:Int32) then some ((0:Int32), (q27.2.1, q17.2.1, q17.2.2, q27.2.2)) else (if q1.1 = (0:Int32) then some ((1:Int32), (q27.2.1, q17.2.1, q17.2.2, q27.2.2)) else bd (f_X5_bid q27.2.1 q27.2.2 i1 (q1.1 - (1:Int32))) (fun (q31 : Int32 × (StV × PaV)) => (if q31.1 = q5.1 then bd (f_X5_winner q31.2.1 q17.2.1 q17.2.2) (fun (q33 : Int32 × (StV × RdV)) => (if q33.1 = i1 then some ((0:Int32), (q31.2.1, q33.2.1, q33.2.2, q31.2.2)) else bd (f_X5_undo q31.2.1 q31.2.2) (fun (q35 : Int32 × (StV × PaV)) => (if q35.1 < (0:Int32) then some ((0:Int32), (q35.2.1, q33.2.1, q33.2.2, q35.2.2)) else some ((1:Int32), (q35.2.1, q33.2.1, q33.2.2, q35.2.2)))))) else some ((0:Int32), (q31.2.1, q17.2.1, q17.2.2, q31.2.2)))))) else (if (1:Int32) = (0:Int32) then some ((0:Int32), (q27.2.1, q17.2.1, q17.2.2, q27.2.2)) else (if q1.1 = (0:Int32) then some ((1:Int32), (q27.2.1, q17.2.1, q17.2.2, q27.2.2)) else bd (f_X5_bid q27.2.1 q27.2.2 i1 (q1.1 - (1:Int32))) (fun (q39 : Int32 × (StV × PaV)) => (if q39.1 = q5.1 then bd (f_X5_winner q39.2.1 q17.2.1 q17.2.2) (fun (q41 : Int32 × (StV × RdV)) => (if q41.1 = i1 then some ((0:Int32), (q39.2.1, q41.2.1, q41.2.2, q39.2.2)) else bd (f_X5_undo q39.2.1 q39.2.2) (fun (q43 : Int32 × (StV × PaV)) => (if q43.1 < (0:Int32) then some ((0:Int32), (q43.2.1, q41.2.1, q41.2.2, q43.2.2)) else some ((1:Int32), (q43.2.1, q41.2.1, q41.2.2, q43.2.2)))))) else some ((0:Int32), (q39.2.1, q17.2.1, q17.2.2, q39.2.2)))))))) else (if (0:Int32) = (0:Int32) then some ((0:Int32), (q7.2.1, q17.2.1, q17.2.2, q7.2.2)) else (if q1.1 = (0:Int32) then some ((1:Int32), (q7.2.1, q17.2.1, q17.2.2, q7.2.2)) else bd (f_X5_bid q7.2.1 q7.2.2 i1 (q1.1 - (1:Int32))) (fun (q21 : Int32 × (StV × PaV)) => (if q21.1 = q5.1 then bd (f_X5_winner q21.2.1 q17.2.1 q17.2.2) (fun (q23 : Int32 × (StV × RdV)) => (if q23.1 = i1 then some ((0:Int32), (q21.2.1, q23.2.1, q23.2.2, q21.2.2)) else bd (f_X5_undo q21.2.1 q21.2.2) (fun (q25 : Int32 × (StV × PaV)) => (if q25.1 < (0:Int32) then some ((0:Int32), (q25.2.1, q23.2.1, q23.2.2, q25.2.2)) else some ((1:Int32), (q25.2.1, q23.2.1, q23.2.2, q25.2.2)))))) else some ((0:Int32), (q21.2.1, q17.2.1, q17.2.2, q21.2.2)))))))) else (if (0:Int32) = (0:Int32) then some ((0:Int32), (q7.2.1, q1.2.1, q1.2.2, q7.2.2)) else (if q1.1 = (0:Int32) then some ((1:Int32), (q7.2.1, q1.2.1, q1.2.2, q7.2.2)) else bd (f_X5_bid q7.2.1 q7.2.2 i1 (q1.1 - (1:Int32))) (fun (q11 : Int32 × (StV × PaV)) => (if q11.1 = q5.1 then bd (f_X5_winner q11.2.1 q1.2.1 q1.2.2) (fun (q13 : Int32 × (StV × RdV)) => (if q13.1 = i1 then some ((0:Int32), (q11.2.1, q13.2.1, q13.2.2, q11.2.2)) else bd (f_X5_undo q11.2.1 q11.2.2) (fun (q15 : Int32 × (StV × PaV)) => (if q15.1 < (0:Int32) then some ((0:Int32), (q15.2.1, q13.2.1, q13.2.2, q15.2.2)) else some ((1:Int32), (q15.2.1, q13.2.1, q13.2.2, q15.2.2)))))) else some ((0:Int32), (q11.2.1, q1.2.1, q1.2.2, q11.2.2))))))))))))))
def b_L_month_47 (v1 : StV) (v7 : PaV) (p1 : Int32) (p3 : Int32) (p4 : Int32) (p5 : Int32) (p6 : Int32) (p7 : Int32) (z : (Int32 × StV × RdV × ArV)) : Option ((Int32 × StV × RdV × ArV) ⊕ (Int32 × StV × RdV × ArV)) := (if p1 ≤ z.1 then some (.inr (z.1, z.2.1, z.2.2.1, z.2.2.2)) else bd (f_X5_member v1 z.1 (0:Int32)) (fun (q9 : Int32 × (Unit)) => bd (f_X5_change v1 z.2.1 z.2.2.1 z.1) (fun (q10 : Int32 × (StV × RdV)) => gi z.1 16 (lt (Ar_row_s z.2.2.2 (upd (Ar_row z.2.2.2) z.1.toNatClampNeg (q9.1 + q10.1))) (fun (u12 : ArV) => bd (f_X5_when v1 q10.2.1 q10.2.2 z.1) (fun (q13 : Int32 × (StV × RdV)) => gi ((8:Int32) + z.1) 16 (lt (Ar_row_s u12 (upd (Ar_row u12) ((8:Int32) + z.1).toNatClampNeg q13.1)) (fun (u15 : ArV) => lt (z.1 + (1:Int32)) (fun (x16 : Int32) => some (.inl (x16, q13.2.1, q13.2.2, u15)))))))))))
def b_L_month_201 (v1 : StV) (v7 : PaV) (v12 : ArV) (p1 : Int32) (p4 : Int32) (p5 : Int32) (p6 : Int32) (p8 : Int32) (p9 : Int32) (z : (Int32 × StV × RdV)) : Option ((Int32 × StV × RdV) ⊕ ((Int32 × StV × RdV) ⊕ (Int32 × (StV × StV × RdV × PaV × ArV)))) := (if p1 ≤ z.1 then some (.inr (.inl (z.1, z.2.1, z.2.2))) else bd (f_X5_member v1 z.1 (0:Int32)) (fun (q35 : Int32 × (Unit)) => gi z.1 16 ((if q35.1 = (Ar_row v12 z.1.toNatClampNeg) then gi ((8:Int32) + z.1) 16 ((if (Ar_row v12 ((8:Int32) + z.1).toNatClampNeg) = p8 then (if z.1 = p9 then (if (1:Int32) = (1:Int32) then gi ((8:Int32) + z.1) 16 ((if (Ar_row v12 ((8:Int32) + z.1).toNatClampNeg) ≤ p8 then lt (z.1 + (1:Int32)) (fun (x69 : Int32) => some (.inl (x69, z.2.1, z.2.2))) else bd (f_X5_when v1 z.2.1 z.2.2 z.1) (fun (q70 : Int32 × (StV × RdV)) => gi ((8:Int32) + z.1) 16 ((if q70.1 = (Ar_row v12 ((8:Int32) + z.1).toNatClampNeg) then lt (z.1 + (1:Int32)) (fun (x73 : Int32) => some (.inl (x73, q70.2.1, q70.2.2))) else some (.inr (.inr ((0:Int32), (v1, q70.2.1, q70.2.2, v7, v12))))))))) else some (.inr (.inr ((0:Int32), (v1, z.2.1, z.2.2, v7, v12))))) else (if (1:Int32) = (0:Int32) then gi ((8:Int32) + z.1) 16 ((if (Ar_row v12 ((8:Int32) + z.1).toNatClampNeg) ≤ p8 then lt (z.1 + (1:Int32)) (fun (x61 : Int32) => some (.inl (x61, z.2.1, z.2.2))) else bd (f_X5_when v1 z.2.1 z.2.2 z.1) (fun (q62 : Int32 × (StV × RdV)) => gi ((8:Int32) + z.1) 16 ((if q62.1 = (Ar_row v12 ((8:Int32) + z.1).toNatClampNeg) then lt (z.1 + (1:Int32)) (fun (x65 : Int32) => some (.inl (x65, q62.2.1, q62.2.2))) else some (.inr (.inr ((0:Int32), (v1, q62.2.1, q62.2.2, v7, v12))))))))) else some (.inr (.inr ((0:Int32), (v1, z.2.1, z.2.2, v7, v12)))))) else (if z.1 = p9 then (if (0:Int32) = (1:Int32) then gi ((8:Int32) + z.1) 16 ((if (Ar_row v12 ((8:Int32) + z.1).toNatClampNeg) ≤ p8 then lt (z.1 + (1:Int32)) (fun (x52 : Int32) => some (.inl (x52, z.2.1, z.2.2))) else bd (f_X5_when v1 z.2.1 z.2.2 z.1) (fun (q53 : Int32 × (StV × RdV)) => gi ((8:Int32) + z.1) 16 ((if q53.1 = (Ar_row v12 ((8:Int32) + z.1).toNatClampNeg) then lt (z.1 + (1:Int32)) (fun (x56 : Int32) => some (.inl (x56, q53.2.1, q53.2.2))) else some (.inr (.inr ((0:Int32), (v1, q53.2.1, q53.2.2, v7, v12))))))))) else some (.inr (.inr ((0:Int32), (v1, z.2.1, z.2.2, v7, v12))))) else (if (0:Int32) = (0:Int32) then gi ((8:Int32) + z.1) 16 ((if (Ar_row v12 ((8:Int32) + z.1).toNatClampNeg) ≤ p8 then lt (z.1 + (1:Int32)) (fun (x44 : Int32) => some (.inl (x44, z.2.1, z.2.2))) else bd (f_X5_when v1 z.2.1 z.2.2 z.1) (fun (q45 : Int32 × (StV × RdV)) => gi ((8:Int32) + z.1) 16 ((if q45.1 = (Ar_row v12 ((8:Int32) + z.1).toNatClampNeg) then lt (z.1 + (1:Int32)) (fun (x48 : Int32) => some (.inl (x48, q45.2.1, q45.2.2))) else some (.inr (.inr ((0:Int32), (v1, q45.2.1, q45.2.2, v7, v12))))))))) else some (.inr (.inr ((0:Int32), (v1, z.2.1, z.2.2, v7, v12)))))))) else some (.inr (.inr ((0:Int32), (v1, z.2.1, z.2.2, v7, v12))))))))
def f_L_month (v1 : StV) (v2 : StV) (v3 : RdV) (v7 : PaV) (v12 : ArV) (i1 : Int32) : Option (Int32 × (StV × StV × RdV × PaV × ArV)) := bd (f_X5_winner v1 v2 v3) (fun (q1 : Int32 × (StV × RdV)) => bd (f_X5_pot v1 q1.2.1 q1.2.2) (fun (q2 : Int32 × (StV × RdV)) => bd (f_X5_about v1 (4:Int32)) (fun (q3 : Int32 × (Unit)) => bd (f_L_sum v1 i1 (10:Int32)) (fun (q4 : Int32 × (Unit)) => bd (f_L_sum v1 i1 (6:Int32)) (fun (q5 : Int32 × (Unit)) => bd (f_L_sum v1 i1 (7:Int32)) (fun (q6 : Int32 × (Unit)) => lt (q5.1 + q6.1) (fun (x7 : Int32) => bd (lp (b_L_month_47 v1 v7 i1 q1.1 q2.1 q3.1 q4.1 x7) FU ((0:Int32), q2.2.1, q2.2.2, v12)) (fun (e17 : (Int32 × StV × RdV × ArV)) => bd (f_X5_about v1 (2:Int32)) (fun (q18 : Int32 × (Unit)) => bd (f_X5_about v1 (1:Int32)) (fun (q19 : Int32 × (Unit)) => (if q19.1 = (0:Int32) then (if q1.1 = (-99999:Int32) then (if q2.1 = (0:Int32) then some ((1:Int32), (v1, e17.2.1, e17.2.2.1, v7, e17.2.2.2)) else some ((0:Int32), (v1, e17.2.1, e17.2.2.1, v7, e17.2.2.2))) else some ((0:Int32), (v1, e17.2.1, e17.2.2.1, v7, e17.2.2.2))) else bd (f_X5_month v1 e17.2.2.1 v7) (fun (q21 : Int32 × (StV × RdV × PaV)) => (if q21.1 = q1.1 then bd (f_X5_about q21.2.1 (2:Int32)) (fun (q23 : Int32 × (Unit)) => (if q23.1 = (q18.1 + (1:Int32)) then bd (f_L_sum q21.2.1 i1 (6:Int32)) (fun (q25 : Int32 × (Unit)) => bd (f_L_sum q21.2.1 i1 (7:Int32)) (fun (q26 : Int32 × (Unit)) => (if (q25.1 + q26.1) = (x7 + q2.1) then bd (f_X5_about q21.2.1 (3:Int32)) (fun (q28 : Int32 × (Unit)) => gz q28.1 ((if (q2.1 - q2.1 / q28.1 * q28.1) = (0:Int32) then bd (f_L_sum q21.2.1 i1 (2:Int32)) (fun (q31 : Int32 × (Unit)) => bd (f_L_sum q21.2.1 i1 (3:Int32)) (fun (q32 : Int32 × (Unit)) => (if (q31.1 + q32.1) = (0:Int32) then bd (lp (b_L_month_201 q21.2.1 q21.2.2.2 e17.2.2.2 i1 q2.1 q3.1 q4.1 q18.1 q21.1) FU ((0:Int32), e17.2.1, q21.2.2.1)) (fun (e74 : ((Int32 × StV × RdV) ⊕ (Int32 × (StV × StV × RdV × PaV × ArV)))) => el e74 (fun (s75 : (Int32 × StV × RdV)) => (if q21.1 = (-99999:Int32) then bd (f_X5_about q21.2.1 (4:Int32)) (fun (q88 : Int32 × (Unit)) => (if q88.1 = (q3.1 + q2.1) then some ((1:Int32), (q21.2.1, s75.2.1, s75.2.2, q21.2.2.2, e17.2.2.2)) else some ((0:Int32), (q21.2.1, s75.2.1, s75.2.2, q21.2.2.2, e17.2.2.2)))) else bd (f_X5_member q21.2.1 q21.1 (4:Int32)) (fun (q78 : Int32 × (Unit)) => (if q78.1 = (1:Int32) then bd (f_X5_member q21.2.1 q21.1 (8:Int32)) (fun (q80 : Int32 × (Unit)) => (if q2.1 < q80.1 then some ((0:Int32), (q21.2.1, s75.2.1, s75.2.2, q21.2.2.2, e17.2.2.2)) else bd (f_X5_member q21.2.1 q21.1 (8:Int32)) (fun (q82 : Int32 × (Unit)) => (if ((2:Int32) * q82.1) < q2.1 then some ((0:Int32), (q21.2.1, s75.2.1, s75.2.2, q21.2.2.2, e17.2.2.2)) else bd (f_X5_leastBid q21.2.1 s75.2.1 s75.2.2 q21.1) (fun (q84 : Int32 × (StV × RdV)) => (if q84.1 = (-99999:Int32) then bd (f_L_sum q21.2.1 i1 (10:Int32)) (fun (q86 : Int32 × (Unit)) => (if (q86.1 - q4.1) < (0:Int32) then some ((0:Int32), (q21.2.1, q84.2.1, q84.2.2, q21.2.2.2, e17.2.2.2)) else some ((1:Int32), (q21.2.1, q84.2.1, q84.2.2, q21.2.2.2, e17.2.2.2)))) else some ((0:Int32), (q21.2.1, q84.2.1, q84.2.2, q21.2.2.2, e17.2.2.2)))))))) else some ((0:Int32), (q21.2.1, s75.2.1, s75.2.2, q21.2.2.2, e17.2.2.2)))))) (fun r => r)) else some ((0:Int32), (q21.2.1, e17.2.1, q21.2.2.1, q21.2.2.2, e17.2.2.2))))) else some ((0:Int32), (q21.2.1, e17.2.1, q21.2.2.1, q21.2.2.2, e17.2.2.2))))) else some ((0:Int32), (q21.2.1, e17.2.1, q21.2.2.1, q21.2.2.2, e17.2.2.2))))) else some ((0:Int32), (q21.2.1, e17.2.1, q21.2.2.1, q21.2.2.2, e17.2.2.2)))) else some ((0:Int32), (q21.2.1, e17.2.1, q21.2.2.1, q21.2.2.2, e17.2.2.2)))))))))))))))
def b_L_inTheEnd_8 (v2 : StV) (p1 : Int32) (p2 : Int32) (z : (Int32 × StV × RdV × PaV)) : Option ((Int32 × StV × RdV × PaV) ⊕ (Int32 × StV × RdV × PaV)) := (if (12:Int32) ≤ z.1 then some (.inr (z.1, z.2.1, z.2.2.1, z.2.2.2)) else bd (f_X5_about z.2.1 (6:Int32)) (fun (q3 : Int32 × (Unit)) => (if q3.1 ≤ (0:Int32) then some (.inr (z.1, z.2.1, z.2.2.1, z.2.2.2)) else bd (f_X5_about z.2.1 (1:Int32)) (fun (q5 : Int32 × (Unit)) => (if q5.1 ≤ (0:Int32) then some (.inr (z.1, z.2.1, z.2.2.1, z.2.2.2)) else bd (f_X5_month z.2.1 z.2.2.1 z.2.2.2) (fun (q7 : Int32 × (StV × RdV × PaV)) => lt (z.1 + (1:Int32)) (fun (x8 : Int32) => some (.inl (x8, q7.2.1, q7.2.2.1, q7.2.2.2)))))))))
def b_L_inTheEnd_80 (v2 : StV) (v3 : RdV) (p3 : Int32) (z : (Int32 × Int32 × StV × PaV)) : Option ((Int32 × Int32 × StV × PaV) ⊕ (Int32 × Int32 × StV × PaV)) := (if p3 ≤ z.2.1 then some (.inr (z.1, z.2.1, z.2.2.1, z.2.2.2)) else (if z.1 = (0:Int32) then some (.inr (z.1, z.2.1, z.2.2.1, z.2.2.2)) else bd (f_X5_undo z.2.2.1 z.2.2.2) (fun (q14 : Int32 × (StV × PaV)) => (if q14.1 < (0:Int32) then lt (z.2.1 + (1:Int32)) (fun (x16 : Int32) => some (.inl ((0:Int32), x16, q14.2.1, q14.2.2))) else lt (z.2.1 + (1:Int32)) (fun (x17 : Int32) => some (.inl ((1:Int32), x17, q14.2.1, q14.2.2)))))))
def f_L_inTheEnd (v1 : StV) (v2 : StV) (v3 : RdV) (v7 : PaV) (i1 : Int32) : Option (Int32 × (StV × StV × RdV × PaV)) := bd (f_X5_inTheEnd v1 v2 v3 i1) (fun (q1 : Int32 × (StV × RdV)) => bd (lp (b_L_inTheEnd_8 q1.2.1 i1 q1.1) FU ((0:Int32), v1, q1.2.2, v7)) (fun (e9 : (Int32 × StV × RdV × PaV)) => bd (f_X5_inTheEnd e9.2.1 q1.2.1 e9.2.2.1 i1) (fun (q10 : Int32 × (StV × RdV)) => (if q10.1 = q1.1 then bd (f_X5_about e9.2.1 (6:Int32)) (fun (q21 : Int32 × (Unit)) => (if (0:Int32) < q21.1 then bd (lp (b_L_inTheEnd_80 q10.2.1 q10.2.2 e9.1) FU ((1:Int32), (0:Int32), e9.2.1, e9.2.2.2)) (fun (e23 : (Int32 × Int32 × StV × PaV)) => (if e23.1 = (0:Int32) then (if e9.1 = (12:Int32) then some ((1:Int32), (e23.2.2.1, q10.2.1, q10.2.2, e23.2.2.2)) else some ((0:Int32), (e23.2.2.1, q10.2.1, q10.2.2, e23.2.2.2))) else some ((1:Int32), (e23.2.2.1, q10.2.1, q10.2.2, e23.2.2.2)))) else bd (f_X5_member e9.2.1 i1 (0:Int32)) (fun (q26 : Int32 × (Unit)) => (if q26.1 = q1.1 then bd (lp (b_L_inTheEnd_80 q10.2.1 q10.2.2 e9.1) FU ((1:Int32), (0:Int32), e9.2.1, e9.2.2.2)) (fun (e31 : (Int32 × Int32 × StV × PaV)) => (if e31.1 = (0:Int32) then (if e9.1 = (12:Int32) then some ((1:Int32), (e31.2.2.1, q10.2.1, q10.2.2, e31.2.2.2)) else some ((0:Int32), (e31.2.2.1, q10.2.1, q10.2.2, e31.2.2.2))) else some ((1:Int32), (e31.2.2.1, q10.2.1, q10.2.2, e31.2.2.2)))) else bd (lp (b_L_inTheEnd_80 q10.2.1 q10.2.2 e9.1) FU ((0:Int32), (0:Int32), e9.2.1, e9.2.2.2)) (fun (e28 : (Int32 × Int32 × StV × PaV)) => (if e28.1 = (0:Int32) then (if e9.1 = (12:Int32) then some ((1:Int32), (e28.2.2.1, q10.2.1, q10.2.2, e28.2.2.2)) else some ((0:Int32), (e28.2.2.1, q10.2.1, q10.2.2, e28.2.2.2))) else some ((1:Int32), (e28.2.2.1, q10.2.1, q10.2.2, e28.2.2.2)))))))) else bd (lp (b_L_inTheEnd_80 q10.2.1 q10.2.2 e9.1) FU ((0:Int32), (0:Int32), e9.2.1, e9.2.2.2)) (fun (e18 : (Int32 × Int32 × StV × PaV)) => (if e18.1 = (0:Int32) then (if e9.1 = (12:Int32) then some ((1:Int32), (e18.2.2.1, q10.2.1, q10.2.2, e18.2.2.2)) else some ((0:Int32), (e18.2.2.1, q10.2.1, q10.2.2, e18.2.2.2))) else some ((1:Int32), (e18.2.2.1, q10.2.1, q10.2.2, e18.2.2.2))))))))
def f_L_leave (v1 : StV) (v7 : PaV) (i1 : Int32) : Option (Int32 × (StV × PaV)) := bd (f_X5_member v1 i1 (4:Int32)) (fun (q1 : Int32 × (Unit)) => (if q1.1 = (1:Int32) then bd (f_X5_member v1 i1 (6:Int32)) (fun (q46 : Int32 × (Unit)) => gz (2:Int32) (lt (q46.1 / (2:Int32)) (fun (x48 : Int32) => bd (f_X5_about v1 (4:Int32)) (fun (q49 : Int32 × (Unit)) => bd (f_X5_member v1 i1 (0:Int32)) (fun (q50 : Int32 × (Unit)) => (if (1:Int32) = (0:Int32) then (if q49.1 ≤ x48 then bd (f_X5_member v1 i1 (5:Int32)) (fun (q53 : Int32 × (Unit)) => (if q53.1 = (0:Int32) then some ((1:Int32), (v1, v7)) else (if (0:Int32) ≤ (q50.1 + q49.1) then bd (f_X5_leave v1 v7 i1) (fun (q56 : Int32 × (StV × PaV)) => (if q56.1 = q49.1 then bd (f_X5_member q56.2.1 i1 (0:Int32)) (fun (q58 : Int32 × (Unit)) => (if q58.1 = (q50.1 + q49.1) then bd (f_X5_about q56.2.1 (4:Int32)) (fun (q60 : Int32 × (Unit)) => (if q60.1 = (q49.1 - q49.1) then bd (f_X5_member q56.2.1 i1 (5:Int32)) (fun (q62 : Int32 × (Unit)) => (if q62.1 = (0:Int32) then some ((1:Int32), (q56.2.1, q56.2.2)) else some ((0:Int32), (q56.2.1, q56.2.2)))) else some ((0:Int32), (q56.2.1, q56.2.2)))) else some ((0:Int32), (q56.2.1, q56.2.2)))) else some ((0:Int32), (q56.2.1, q56.2.2)))) else some ((1:Int32), (v1, v7))))) else bd (f_X5_member v1 i1 (5:Int32)) (fun (q64 : Int32 × (Unit)) => (if q64.1 = (0:Int32) then some ((1:Int32), (v1, v7)) else (if (0:Int32) ≤ (q50.1 + x48) then bd (f_X5_leave v1 v7 i1) (fun (q67 : Int32 × (StV × PaV)) => (if q67.1 = x48 then bd (f_X5_member q67.2.1 i1 (0:Int32)) (fun (q69 : Int32 × (Unit)) => (if q69.1 = (q50.1 + x48) then bd (f_X5_about q67.2.1 (4:Int32)) (fun (q71 : Int32 × (Unit)) => (if q71.1 = (q49.1 - x48) then bd (f_X5_member q67.2.1 i1 (5:Int32)) (fun (q73 : Int32 × (Unit)) => (if q73.1 = (0:Int32) then some ((1:Int32), (q67.2.1, q67.2.2)) else some ((0:Int32), (q67.2.1, q67.2.2)))) else some ((0:Int32), (q67.2.1, q67.2.2)))) else some ((0:Int32), (q67.2.1, q67.2.2)))) else some ((0:Int32), (q67.2.1, q67.2.2)))) else some ((1:Int32), (v1, v7)))))) else bd (f_X5_about v1 (3:Int32)) (fun (q75 : Int32 × (Unit)) => bd (f_X5_about v1 (6:Int32)) (fun (q76 : Int32 × (Unit)) => lt ((-q75.1) * q76.1) (fun (x77 : Int32) => bd (f_X5_member v1 i1 (5:Int32)) (fun (q78 : Int32 × (Unit)) => (if q78.1 = (0:Int32) then some ((1:Int32), (v1, v7)) else (if (0:Int32) ≤ (q50.1 + x77) then bd (f_X5_leave v1 v7 i1) (fun (q81 : Int32 × (StV × PaV)) => (if q81.1 = x77 then bd (f_X5_member q81.2.1 i1 (0:Int32)) (fun (q83 : Int32 × (Unit)) => (if q83.1 = (q50.1 + x77) then bd (f_X5_about q81.2.1 (4:Int32)) (fun (q85 : Int32 × (Unit)) => (if q85.1 = (q49.1 - x77) then bd (f_X5_member q81.2.1 i1 (5:Int32)) (fun (q87 : Int32 × (Unit)) => (if q87.1 = (0:Int32) then some ((1:Int32), (q81.2.1, q81.2.2)) else some ((0:Int32), (q81.2.1, q81.2.2)))) else some ((0:Int32), (q81.2.1, q81.2.2)))) else some ((0:Int32), (q81.2.1, q81.2.2)))) else some ((0:Int32), (q81.2.1, q81.2.2)))) else some ((1:Int32), (v1, v7)))))))))))))) else bd (f_X5_member v1 i1 (6:Int32)) (fun (q3 : Int32 × (Unit)) => gz (2:Int32) (lt (q3.1 / (2:Int32)) (fun (x5 : Int32) => bd (f_X5_about v1 (4:Int32)) (fun (q6 : Int32 × (Unit)) => bd (f_X5_member v1 i1 (0:Int32)) (fun (q7 : Int32 × (Unit)) => (if (0:Int32) = (0:Int32) then (if q6.1 ≤ x5 then bd (f_X5_member v1 i1 (5:Int32)) (fun (q10 : Int32 × (Unit)) => (if q10.1 = (0:Int32) then some ((1:Int32), (v1, v7)) else (if (0:Int32) ≤ (q7.1 + q6.1) then bd (f_X5_leave v1 v7 i1) (fun (q13 : Int32 × (StV × PaV)) => (if q13.1 = q6.1 then bd (f_X5_member q13.2.1 i1 (0:Int32)) (fun (q15 : Int32 × (Unit)) => (if q15.1 = (q7.1 + q6.1) then bd (f_X5_about q13.2.1 (4:Int32)) (fun (q17 : Int32 × (Unit)) => (if q17.1 = (q6.1 - q6.1) then bd (f_X5_member q13.2.1 i1 (5:Int32)) (fun (q19 : Int32 × (Unit)) => (if q19.1 = (0:Int32) then some ((1:Int32), (q13.2.1, q13.2.2)) else some ((0:Int32), (q13.2.1, q13.2.2)))) else some ((0:Int32), (q13.2.1, q13.2.2)))) else some ((0:Int32), (q13.2.1, q13.2.2)))) else some ((0:Int32), (q13.2.1, q13.2.2)))) else some ((1:Int32), (v1, v7))))) else bd (f_X5_member v1 i1 (5:Int32)) (fun (q21 : Int32 × (Unit)) => (if q21.1 = (0:Int32) then some ((1:Int32), (v1, v7)) else (if (0:Int32) ≤ (q7.1 + x5) then bd (f_X5_leave v1 v7 i1) (fun (q24 : Int32 × (StV × PaV)) => (if q24.1 = x5 then bd (f_X5_member q24.2.1 i1 (0:Int32)) (fun (q26 : Int32 × (Unit)) => (if q26.1 = (q7.1 + x5) then bd (f_X5_about q24.2.1 (4:Int32)) (fun (q28 : Int32 × (Unit)) => (if q28.1 = (q6.1 - x5) then bd (f_X5_member q24.2.1 i1 (5:Int32)) (fun (q30 : Int32 × (Unit)) => (if q30.1 = (0:Int32) then some ((1:Int32), (q24.2.1, q24.2.2)) else some ((0:Int32), (q24.2.1, q24.2.2)))) else some ((0:Int32), (q24.2.1, q24.2.2)))) else some ((0:Int32), (q24.2.1, q24.2.2)))) else some ((0:Int32), (q24.2.1, q24.2.2)))) else some ((1:Int32), (v1, v7)))))) else bd (f_X5_about v1 (3:Int32)) (fun (q32 : Int32 × (Unit)) => bd (f_X5_about v1 (6:Int32)) (fun (q33 : Int32 × (Unit)) => lt ((-q32.1) * q33.1) (fun (x34 : Int32) => bd (f_X5_member v1 i1 (5:Int32)) (fun (q35 : Int32 × (Unit)) => (if q35.1 = (0:Int32) then some ((1:Int32), (v1, v7)) else (if (0:Int32) ≤ (q7.1 + x34) then bd (f_X5_leave v1 v7 i1) (fun (q38 : Int32 × (StV × PaV)) => (if q38.1 = x34 then bd (f_X5_member q38.2.1 i1 (0:Int32)) (fun (q40 : Int32 × (Unit)) => (if q40.1 = (q7.1 + x34) then bd (f_X5_about q38.2.1 (4:Int32)) (fun (q42 : Int32 × (Unit)) => (if q42.1 = (q6.1 - x34) then bd (f_X5_member q38.2.1 i1 (5:Int32)) (fun (q44 : Int32 × (Unit)) => (if q44.1 = (0:Int32) then some ((1:Int32), (q38.2.1, q38.2.2)) else some ((0:Int32), (q38.2.1, q38.2.2)))) else some ((0:Int32), (q38.2.1, q38.2.2)))) else some ((0:Int32), (q38.2.1, q38.2.2)))) else some ((0:Int32), (q38.2.1, q38.2.2)))) else some ((1:Int32), (v1, v7))))))))))))))))
def f_L_repay (v1 : StV) (v7 : PaV) (i1 : Int32) (i2 : Int32) : Option (Int32 × (StV × PaV)) := bd (f_X5_owes v1 i1 i2) (fun (q1 : Int32 × (Unit)) => bd (f_X5_member v1 i1 (0:Int32)) (fun (q2 : Int32 × (Unit)) => bd (f_X5_member v1 i2 (0:Int32)) (fun (q3 : Int32 × (Unit)) => (if q2.1 ≤ q1.1 then bd (f_X5_repay v1 v7 i1 i2) (fun (q5 : Int32 × (StV × PaV)) => (if q5.1 = q2.1 then bd (f_X5_owes q5.2.1 i1 i2) (fun (q7 : Int32 × (Unit)) => (if q7.1 = (q1.1 - q2.1) then bd (f_X5_member q5.2.1 i1 (0:Int32)) (fun (q9 : Int32 × (Unit)) => (if q9.1 = (q2.1 - q2.1) then bd (f_X5_member q5.2.1 i2 (0:Int32)) (fun (q11 : Int32 × (Unit)) => (if q11.1 = (q3.1 + q2.1) then some ((1:Int32), (q5.2.1, q5.2.2)) else some ((0:Int32), (q5.2.1, q5.2.2)))) else some ((0:Int32), (q5.2.1, q5.2.2)))) else some ((0:Int32), (q5.2.1, q5.2.2)))) else some ((0:Int32), (q5.2.1, q5.2.2)))) else bd (f_X5_repay v1 v7 i1 i2) (fun (q13 : Int32 × (StV × PaV)) => (if q13.1 = q1.1 then bd (f_X5_owes q13.2.1 i1 i2) (fun (q15 : Int32 × (Unit)) => (if q15.1 = (q1.1 - q1.1) then bd (f_X5_member q13.2.1 i1 (0:Int32)) (fun (q17 : Int32 × (Unit)) => (if q17.1 = (q2.1 - q1.1) then bd (f_X5_member q13.2.1 i2 (0:Int32)) (fun (q19 : Int32 × (Unit)) => (if q19.1 = (q3.1 + q1.1) then some ((1:Int32), (q13.2.1, q13.2.2)) else some ((0:Int32), (q13.2.1, q13.2.2)))) else some ((0:Int32), (q13.2.1, q13.2.2)))) else some ((0:Int32), (q13.2.1, q13.2.2)))) else some ((0:Int32), (q13.2.1, q13.2.2))))))))
abbrev LwV : Type := StV × StV × RdV × PaV × ArV
def f_law_13 (xs : Nat → Int32) (L : Nat) (v1 : StV) (v2 : StV) (v3 : RdV) (v7 : PaV) (v12 : ArV) : Option (StV × StV × RdV × PaV × ArV × Int32) := bd (f_L_cell xs L (0:Int32)) (fun (q1 : Int32 × (Unit)) => bd (f_L_low q1.1 (7:Int32)) (fun (q2 : Int32 × (Unit)) => lt ((1:Int32) + q2.1) (fun (x3 : Int32) => bd (f_L_cell xs L (18:Int32)) (fun (q4 : Int32 × (Unit)) => bd (f_L_low q4.1 (20:Int32)) (fun (q5 : Int32 × (Unit)) => lt ((1:Int32) + q5.1) (fun (x6 : Int32) => bd (f_X5_setContribution v1 v7 x6) (fun (q7 : Int32 × (StV × PaV)) => (if q7.1 = (10:Int32) then bd (f_L_build xs L q7.2.1 q7.2.2 x3) (fun (q9 : Int32 × (StV × PaV)) => (if q9.1 = (0:Int32) then none else bd (f_L_addUp q9.2.1 x3) (fun (q11 : Int32 × (Unit)) => (if q11.1 = (0:Int32) then none else some (q9.2.1, v2, v3, q9.2.2, v12, x3))))) else none))))))))
def f_law_81 (xs : Nat → Int32) (L : Nat) (v1 : StV) (v2 : StV) (v3 : RdV) (v7 : PaV) (v12 : ArV) (i3 : Int32) (i5 : Int32) : Option (StV × StV × RdV × PaV × ArV × Int32) := bd (f_L_cell xs L ((20:Int32) + i5)) (fun (q13 : Int32 × (Unit)) => bd (f_L_cell xs L ((30:Int32) + i5)) (fun (q14 : Int32 × (Unit)) => bd (f_L_prepare v1 v7 i3 q13.1) (fun (q15 : Int32 × (StV × PaV)) => (if q15.1 = (0:Int32) then none else bd (f_L_low q14.1 i3) (fun (q17 : Int32 × (Unit)) => bd (f_L_leastBid q15.2.1 v2 v3 q15.2.2 q17.1) (fun (q18 : Int32 × (StV × StV × RdV × PaV)) => (if q18.1 = (0:Int32) then none else bd (f_L_month q18.2.1 q18.2.2.1 q18.2.2.2.1 q18.2.2.2.2 v12 i3) (fun (q20 : Int32 × (StV × StV × RdV × PaV × ArV)) => (if q20.1 = (0:Int32) then none else bd (f_L_addUp q20.2.1 i3) (fun (q22 : Int32 × (Unit)) => (if q22.1 = (0:Int32) then none else some (q20.2.1, q20.2.2.1, q20.2.2.2.1, q20.2.2.2.2.1, q20.2.2.2.2.2, q14.1))))))))))))
def f_law_145 (xs : Nat → Int32) (L : Nat) (v1 : StV) (v2 : StV) (v3 : RdV) (v7 : PaV) (v12 : ArV) (i3 : Int32) (i5 : Int32) (i7 : Int32) : Option (StV × StV × RdV × PaV × ArV) := bd (f_L_low (i7 >>> ((4:Int32) &&& 31)) (4:Int32)) (fun (q24 : Int32 × (Unit)) => (if q24.1 = (0:Int32) then bd (f_L_low (i7 >>> ((6:Int32) &&& 31)) i3) (fun (q26 : Int32 × (Unit)) => bd (f_L_inTheEnd v1 v2 v3 v7 q26.1) (fun (q27 : Int32 × (StV × StV × RdV × PaV)) => (if q27.1 = (0:Int32) then none else some (q27.2.1, q27.2.2.1, q27.2.2.2.1, q27.2.2.2.2, v12)))) else some (v1, v2, v3, v7, v12)))
def f_law_174 (xs : Nat → Int32) (L : Nat) (v1 : StV) (v2 : StV) (v3 : RdV) (v7 : PaV) (v12 : ArV) (i3 : Int32) (i5 : Int32) (i7 : Int32) : Option (StV × StV × RdV × PaV × ArV) := bd (f_L_low (i7 >>> ((10:Int32) &&& 31)) (5:Int32)) (fun (q29 : Int32 × (Unit)) => (if q29.1 = (0:Int32) then bd (f_L_low (i7 >>> ((13:Int32) &&& 31)) i3) (fun (q31 : Int32 × (Unit)) => bd (f_L_leave v1 v7 q31.1) (fun (q32 : Int32 × (StV × PaV)) => (if q32.1 = (0:Int32) then none else some (q32.2.1, v2, v3, q32.2.2, v12)))) else some (v1, v2, v3, v7, v12)))
def f_law_204 (xs : Nat → Int32) (L : Nat) (v1 : StV) (v2 : StV) (v3 : RdV) (v7 : PaV) (v12 : ArV) (i3 : Int32) (i5 : Int32) (i7 : Int32) : Option (StV × StV × RdV × PaV × ArV × Int32) := bd (f_L_low (i7 >>> ((16:Int32) &&& 31)) i3) (fun (q34 : Int32 × (Unit)) => (if i3 ≤ (1:Int32) then some (v1, v2, v3, v7, v12, q34.1) else bd (f_L_low (i7 >>> ((20:Int32) &&& 31)) (i3 - (1:Int32))) (fun (q36 : Int32 × (Unit)) => gz i3 (lt (((q34.1 + (1:Int32)) + q36.1) - ((q34.1 + (1:Int32)) + q36.1) / i3 * i3) (fun (x38 : Int32) => bd (f_L_repay v1 v7 q34.1 x38) (fun (q39 : Int32 × (StV × PaV)) => (if q39.1 = (0:Int32) then none else some (q39.2.1, v2, v3, q39.2.2, v12, q34.1))))))))
def f_law_249 (xs : Nat → Int32) (L : Nat) (v1 : StV) (v2 : StV) (v3 : RdV) (v7 : PaV) (v12 : ArV) (i3 : Int32) (i5 : Int32) (i7 : Int32) (i8 : Int32) : Option (StV × StV × RdV × PaV × ArV) := bd (f_L_low (i7 >>> ((24:Int32) &&& 31)) (3:Int32)) (fun (q41 : Int32 × (Unit)) => (if q41.1 = (0:Int32) then bd (f_X5_member v1 i8 (0:Int32)) (fun (q43 : Int32 × (Unit)) => bd (f_L_low (i7 >>> ((26:Int32) &&& 31)) (30:Int32)) (fun (q44 : Int32 × (Unit)) => lt ((1:Int32) + q44.1) (fun (x45 : Int32) => bd (f_X5_give v1 v7 i8 x45) (fun (q46 : Int32 × (StV × PaV)) => (if q46.1 = (q43.1 + x45) then some (q46.2.1, v2, v3, q46.2.2, v12) else none))))) else some (v1, v2, v3, v7, v12)))
def f_law_302 (xs : Nat → Int32) (L : Nat) (v1 : StV) (v2 : StV) (v3 : RdV) (v7 : PaV) (v12 : ArV) (i3 : Int32) (i5 : Int32) : Option (StV × StV × RdV × PaV × ArV) := bd (f_L_addUp v1 i3) (fun (q48 : Int32 × (Unit)) => (if q48.1 = (0:Int32) then none else some (v1, v2, v3, v7, v12)))
def b_law (xs : Nat → Int32) (L : Nat) (i3 : Int32) (z : Int32 × LwV) : Option ((Int32 × LwV) ⊕ LwV) := if (7:Int32) ≤ z.1 then some (.inr z.2) else bd (f_law_81 xs L z.2.1 z.2.2.1 z.2.2.2.1 z.2.2.2.2.1 z.2.2.2.2.2 i3 z.1) (fun (w1 : StV × StV × RdV × PaV × ArV × Int32) => bd (f_law_145 xs L w1.1 w1.2.1 w1.2.2.1 w1.2.2.2.1 w1.2.2.2.2.1 i3 z.1 w1.2.2.2.2.2) (fun (w2 : LwV) => bd (f_law_174 xs L w2.1 w2.2.1 w2.2.2.1 w2.2.2.2.1 w2.2.2.2.2 i3 z.1 w1.2.2.2.2.2) (fun (w3 : LwV) => bd (f_law_204 xs L w3.1 w3.2.1 w3.2.2.1 w3.2.2.2.1 w3.2.2.2.2 i3 z.1 w1.2.2.2.2.2) (fun (w4 : StV × StV × RdV × PaV × ArV × Int32) => bd (f_law_249 xs L w4.1 w4.2.1 w4.2.2.1 w4.2.2.2.1 w4.2.2.2.2.1 i3 z.1 w1.2.2.2.2.2 w4.2.2.2.2.2) (fun (w5 : LwV) => bd (f_law_302 xs L w5.1 w5.2.1 w5.2.2.1 w5.2.2.2.1 w5.2.2.2.2 i3 z.1) (fun (w6 : LwV) => lt (z.1 + (1:Int32)) (fun (x9 : Int32) => some (.inl (x9, w6)))))))))
abbrev St_0 : StV := (0, 0, 10, 0, 0, fun _ => 0, fun _ => 0, fun _ => 0, fun _ => 0, fun _ => 0, fun _ => 0, fun _ => 0, fun _ => 0, fun _ => 0, fun _ => 0, fun _ => 0, fun _ => 0)
abbrev Rd_0 : RdV := (fun _ => 0, fun _ => 0, 0)
abbrev Tx_0 : TxV := (fun _ => 0, 0, 0)
abbrev Pa_0 : PaV := (0, 0, fun _ => St_0)
abbrev Sl_0 : SlV := fun _ => 0
end
section
/-! the pure side: bases -/
def Two {A B : Type} (o1 : Option A) (o2 : Option B) (K : A → B → Prop) : Prop := match o1, o2 with
  | some a, some b => K a b
  | _, _ => False
def One {A : Type} (o : Option A) (K : A → Prop) : Prop := match o with
  | some a => K a
  | none => False
theorem on_get {A : Type} {o : Option A} {K : A → Prop} (h : One o K) : ∃ a, o = some a ∧ K a := by
  cases o with
  | none => exact h.elim
  | some a => exact ⟨a, rfl, h⟩
theorem tw_get {A B : Type} {o1 : Option A} {o2 : Option B} {K : A → B → Prop} (h : Two o1 o2 K) : ∃ a b, o1 = some a ∧ o2 = some b ∧ K a b := by
  cases o1 with
  | none => exact h.elim
  | some a => cases o2 with
    | none => exact h.elim
    | some b => exact ⟨a, b, rfl, rfl, h⟩
theorem tw_mk {A B : Type} {o1 : Option A} {o2 : Option B} {K : A → B → Prop} {a : A} {b : B} (h1 : o1 = some a) (h2 : o2 = some b) (h : K a b) : Two o1 o2 K := by
  rw [h1, h2]; exact h
theorem on_mk {A : Type} {o : Option A} {K : A → Prop} {a : A} (h1 : o = some a) (h : K a) : One o K := by
  rw [h1]; exact h
theorem on_mono {A : Type} {o : Option A} {K K' : A → Prop} (h : One o K) (hk : ∀ a, K a → K' a) : One o K' := by
  obtain ⟨a, e, q⟩ := on_get h
  exact on_mk e (hk a q)
theorem tw_mono {A B : Type} {o1 : Option A} {o2 : Option B} {K K' : A → B → Prop} (h : Two o1 o2 K) (hk : ∀ a b, K a b → K' a b) : Two o1 o2 K' := by
  obtain ⟨a, b, e1, e2, q⟩ := tw_get h
  exact tw_mk e1 e2 (hk a b q)
theorem tw_bd {A B C D : Type} {o1 : Option A} {o2 : Option B} {K : A → B → Prop} {k1 : A → Option C} {k2 : B → Option D} {K' : C → D → Prop} (h : Two o1 o2 K) (hk : ∀ a b, K a b → Two (k1 a) (k2 b) K') : Two (bd o1 k1) (bd o2 k2) K' := by
  obtain ⟨a, b, e1, e2, q⟩ := tw_get h
  rw [e1, e2]
  exact hk a b q
theorem tw_bdl {A C D : Type} {o1 : Option A} {o2 : Option D} {K : A → Prop} {k1 : A → Option C} {K' : C → D → Prop} (h : One o1 K) (hk : ∀ a, K a → Two (k1 a) o2 K') : Two (bd o1 k1) o2 K' := by
  obtain ⟨a, e1, q⟩ := on_get h
  rw [e1]
  exact hk a q
theorem tw_bdr {B C D : Type} {o1 : Option C} {o2 : Option B} {K : B → Prop} {k2 : B → Option D} {K' : C → D → Prop} (h : One o2 K) (hk : ∀ b, K b → Two o1 (k2 b) K') : Two o1 (bd o2 k2) K' := by
  obtain ⟨b, e2, q⟩ := on_get h
  rw [e2]
  exact hk b q
theorem on_bd {A C : Type} {o1 : Option A} {K : A → Prop} {k1 : A → Option C} {K' : C → Prop} (h : One o1 K) (hk : ∀ a, K a → One (k1 a) K') : One (bd o1 k1) K' := by
  obtain ⟨a, e1, q⟩ := on_get h
  rw [e1]
  exact hk a q
theorem bd_s {A B : Type} (a : A) (k : A → Option B) : bd (some a) k = k a := (fun (_ : True) => rfl) trivial
theorem lt_e {A B : Type} (a : A) (k : A → B) : lt a k = k a := (fun (_ : True) => rfl) trivial
theorem lp_mono {S E : Type} {b : S → Option (S ⊕ E)} : ∀ (n m : Nat) (s : S) (e : E), n ≤ m → lp b n s = some e → lp b m s = some e
  | 0, _, _, _, _, h => by cases h
  | n + 1, 0, _, _, hm, _ => by omega
  | n + 1, m + 1, s, e, hm, h => by
    obtain ⟨z, h1, h2⟩ := lp_s h
    unfold lp
    rw [h1]
    cases z with
    | inl s' => exact lp_mono n m s' e (by omega) h2
    | inr e' => exact congrArg some h2
/-- a loop by itself -/
def Sto {S E : Type} (o : Option (S ⊕ E)) (J : S → Prop) (K : E → Prop) : Prop := match o with
  | some (.inl s) => J s
  | some (.inr e) => K e
  | none => False
theorem lp_one {S E : Type} {b : S → Option (S ⊕ E)} (I : Nat → S → Prop) (K : E → Prop) (step : ∀ n s, I n s → ∀ J : S → Prop, (∀ m s', m < n → I m s' → J s') → Sto (b s) J K) : ∀ {fu n : Nat} {s : S}, I n s → n < fu → One (lp b fu s) K
  | 0, n, s, _, hf => by omega
  | fu + 1, n, s, h, hf => by
    have q := step n s h (fun s' => ∃ m, m < n ∧ I m s') (fun m s' h1 h2 => ⟨m, h1, h2⟩)
    unfold lp
    cases hb : b s with
    | none => rw [hb] at q; exact q.elim
    | some z =>
      rw [hb] at q
      cases z with
      | inl s' =>
        obtain ⟨m, h1, h2⟩ := q
        exact lp_one I K step h2 (by omega)
      | inr e => exact q
/-- two loops beside each other; the first may end while the second goes on by itself -/
def Stt {S1 E1 S2 E2 : Type} (o1 : Option (S1 ⊕ E1)) (o2 : Option (S2 ⊕ E2)) (J : S1 → S2 → Prop) (K : E1 → E2 → Prop) : Prop := match o1, o2 with
  | some (.inl s), some (.inl t) => J s t
  | some (.inr e), some (.inr f) => K e f
  | _, _ => False
theorem lp_two {S1 E1 S2 E2 : Type} {b1 : S1 → Option (S1 ⊕ E1)} {b2 : S2 → Option (S2 ⊕ E2)} (I : Nat → S1 → S2 → Prop) (K : E1 → E2 → Prop) (step : ∀ n s t, I n s t → ∀ J : S1 → S2 → Prop, (∀ m s' t', m < n → I m s' t' → J s' t') → Stt (b1 s) (b2 t) J K) : ∀ {fu n : Nat} {s : S1} {t : S2}, I n s t → n < fu → Two (lp b1 fu s) (lp b2 fu t) K
  | 0, n, s, t, _, hf => by omega
  | fu + 1, n, s, t, h, hf => by
    have q := step n s t h (fun s' t' => ∃ m, m < n ∧ I m s' t') (fun m s' t' h1 h2 => ⟨m, h1, h2⟩)
    unfold lp
    cases hb : b1 s with
    | none => rw [hb] at q; exact q.elim
    | some z =>
      rw [hb] at q
      cases z with
      | inl s' =>
        cases hc : b2 t with
        | none => rw [hc] at q; exact q.elim
        | some y =>
          rw [hc] at q
          cases y with
          | inl t' =>
            obtain ⟨m, h1, h2⟩ := q
            exact lp_two I K step h2 (by omega)
          | inr f => exact q.elim
      | inr e =>
        cases hc : b2 t with
        | none => rw [hc] at q; exact q.elim
        | some y =>
          rw [hc] at q
          cases y with
          | inl t' => exact q.elim
          | inr f => exact q
/-- the same, where the second has more turns to take when the first is through -/
def Stu {S1 E1 S2 E2 : Type} (o1 : Option (S1 ⊕ E1)) (o2 : Option (S2 ⊕ E2)) (J : S1 → S2 → Prop) (X : E1 → Prop) : Prop := match o1 with
  | some (.inl s) => match o2 with
    | some (.inl t) => J s t
    | _ => False
  | some (.inr e) => X e
  | none => False
theorem lp_tail {S1 E1 S2 E2 : Type} {b1 : S1 → Option (S1 ⊕ E1)} {b2 : S2 → Option (S2 ⊕ E2)} (I : Nat → S1 → S2 → Prop) (k : Nat) (K : E1 → E2 → Prop) (step : ∀ n s t, I n s t → ∀ (J : S1 → S2 → Prop) (X : E1 → Prop), (∀ m s' t', m < n → I m s' t' → J s' t') → (∀ e, One (lp b2 k t) (K e) → X e) → Stu (b1 s) (b2 t) J X) : ∀ {fu n : Nat} {s : S1} {t : S2}, I n s t → n + k < fu → Two (lp b1 fu s) (lp b2 fu t) K
  | 0, n, s, t, _, hf => by omega
  | fu + 1, n, s, t, h, hf => by
    have q := step n s t h (fun s' t' => ∃ m, m < n ∧ I m s' t') (fun e => One (lp b2 k t) (K e)) (fun m s' t' h1 h2 => ⟨m, h1, h2⟩) (fun e h => h)
    cases hb : b1 s with
    | none => rw [hb] at q; exact q.elim
    | some z =>
      rw [hb] at q
      cases z with
      | inl s' =>
        cases hc : b2 t with
        | none => rw [hc] at q; exact q.elim
        | some y =>
          rw [hc] at q
          cases y with
          | inl t' =>
            obtain ⟨m, h3, h4⟩ := q
            have q := lp_tail I k K step h4 (show m + k < fu by omega)
            have e1 : lp b1 (fu + 1) s = lp b1 fu s' := by rw [lp, hb]
            have e2 : lp b2 (fu + 1) t = lp b2 fu t' := by rw [lp, hc]
            rw [e1, e2]
            exact q
          | inr f => exact q.elim
      | inr e =>
        obtain ⟨f, e2, q⟩ := on_get q
        exact tw_mk (by rw [lp, hb]) (lp_mono k (fu + 1) t f (by omega) e2) q
theorem FU_gt {n : Nat} (h : n < 1000000) : n < FU := h
theorem lp_get {S E : Type} {b : S → Option (S ⊕ E)} {s : S} {K : E → Prop} {n : Nat} (hn : n < 1000000) (h : ∀ fu, n < fu → One (lp b fu s) K) : ∃ e, lp b FU s = some e ∧ K e := on_get (h FU hn)
theorem lp_get2 {S E S2 E2 : Type} {b : S → Option (S ⊕ E)} {b2 : S2 → Option (S2 ⊕ E2)} {s : S} {s2 : S2} {K : E → E2 → Prop} {n : Nat} (hn : n < 1000000) (h : ∀ fu, n < fu → Two (lp b fu s) (lp b2 fu s2) K) : ∃ e f, lp b FU s = some e ∧ lp b2 FU s2 = some f ∧ K e f := tw_get (h FU hn)
/-! numbers as places -/
theorem gi_ok {β : Type} {i n : Nat} {k : Option β} (h : i < n) (hn : n < 2147483648) : gi (nI i) n k = k := if_neg (nI_in h (by simpa using hn))
theorem q_add (a b : Nat) : nI a + nI b = nI (a + b) := (Int32.ofNat_add a b).symm
theorem nI_s1 (a : Nat) : nI a + (1:Int32) = nI (a + 1) := (nI_succ a).symm
theorem nI_inj {a b : Nat} (ha : a < 2147483648) (hb : b < 2147483648) : nI a = nI b ↔ a = b := by
  constructor
  · intro h
    have h1 := congrArg Int32.toNatClampNeg h
    rwa [nI_clamp (by simpa using ha), nI_clamp (by simpa using hb)] at h1
  · intro h; rw [h]
theorem nI_lei {a b : Nat} (ha : a < 2147483648) (hb : b < 2147483648) : nI a ≤ nI b ↔ a ≤ b := by
  rw [Int32.le_iff_toInt_le, nI_toInt (by simpa using ha), nI_toInt (by simpa using hb)]; omega
theorem nI_lti {a b : Nat} (ha : a < 2147483648) (hb : b < 2147483648) : nI a < nI b ↔ a < b := by
  rw [Int32.lt_iff_toInt_lt, nI_toInt (by simpa using ha), nI_toInt (by simpa using hb)]; omega
theorem nI_neg {a : Nat} (ha : a < 2147483648) : nI a = (-99999:Int32) ↔ False := by
  constructor
  · intro h
    have h1 := congrArg Int32.toInt h
    rw [nI_toInt (by simpa using ha)] at h1
    have h2 : (-99999 : Int32).toInt = -99999 := by decide
    omega
  · intro h; exact h.elim
theorem nI_nn {a : Nat} (ha : a < 2147483648) : nI a < (0:Int32) ↔ False := ⟨fun h => nI_pos (by simpa using ha) h, fun h => h.elim⟩
theorem upd_same (f : Nat → Int32) (i : Nat) (x : Int32) : upd f i x i = x := by unfold upd; rw [if_pos rfl]
theorem upd_ne {f : Nat → Int32} {i j : Nat} {x : Int32} (h : j ≠ i) : upd f i x j = f j := by unfold upd; rw [if_neg h]
theorem nar0 : vp_nar .boolean (0:Int32) = 0 := (fun (_ : True) => rfl) trivial
theorem nar1 : vp_nar .boolean (1:Int32) = 1 := (fun (_ : True) => rfl) trivial
theorem gz2 {β : Type} {k : Option β} : gz (2:Int32) k = k := if_neg (by decide)
theorem gz8 {β : Type} {k : Option β} : gz (8:Int32) k = k := if_neg (by decide)
theorem gz40 {β : Type} {k : Option β} : gz (40:Int32) k = k := if_neg (by decide)
theorem o_ne : ((1:Int32) = 0) = False := by simp
theorem z_ne : ((0:Int32) = 1) = False := by simp
theorem q_mul (a b : Nat) : nI a * nI b = nI (a * b) := (Int32.ofNat_mul a b).symm
theorem mul8 (a : Nat) : nI a * (8:Int32) = nI (a * 8) := q_mul a 8
theorem mul8r (a : Nat) : (8:Int32) * nI a = nI (8 * a) := q_mul 8 a
theorem c0 : (0:Int32).toNatClampNeg = 0 := (fun (_ : True) => rfl) trivial
theorem g0_157 {β : Type} {k : Option β} : gi (0:Int32) 157 k = k := if_neg (by decide)
theorem c1 : (1:Int32).toNatClampNeg = 1 := (fun (_ : True) => rfl) trivial
theorem g1_157 {β : Type} {k : Option β} : gi (1:Int32) 157 k = k := if_neg (by decide)
theorem c2 : (2:Int32).toNatClampNeg = 2 := (fun (_ : True) => rfl) trivial
theorem g2_157 {β : Type} {k : Option β} : gi (2:Int32) 157 k = k := if_neg (by decide)
theorem c3 : (3:Int32).toNatClampNeg = 3 := (fun (_ : True) => rfl) trivial
theorem g3_157 {β : Type} {k : Option β} : gi (3:Int32) 157 k = k := if_neg (by decide)
theorem c4 : (4:Int32).toNatClampNeg = 4 := (fun (_ : True) => rfl) trivial
theorem g4_157 {β : Type} {k : Option β} : gi (4:Int32) 157 k = k := if_neg (by decide)
theorem g0_1 {β : Type} {k : Option β} : gi (0:Int32) 1 k = k := if_neg (by decide)
theorem a5 (i : Nat) : (5:Int32) + nI i = nI (5 + i) := q_add 5 i
theorem a13 (i : Nat) : (13:Int32) + nI i = nI (13 + i) := q_add 13 i
theorem a21 (i : Nat) : (21:Int32) + nI i = nI (21 + i) := q_add 21 i
theorem a29 (i : Nat) : (29:Int32) + nI i = nI (29 + i) := q_add 29 i
theorem a37 (i : Nat) : (37:Int32) + nI i = nI (37 + i) := q_add 37 i
theorem a45 (i : Nat) : (45:Int32) + nI i = nI (45 + i) := q_add 45 i
theorem a53 (i : Nat) : (53:Int32) + nI i = nI (53 + i) := q_add 53 i
theorem a61 (i : Nat) : (61:Int32) + nI i = nI (61 + i) := q_add 61 i
theorem a69 (i : Nat) : (69:Int32) + nI i = nI (69 + i) := q_add 69 i
theorem a77 (i : Nat) : (77:Int32) + nI i = nI (77 + i) := q_add 77 i
theorem a85 (i : Nat) : (85:Int32) + nI i = nI (85 + i) := q_add 85 i
theorem a93 (i : Nat) : (93:Int32) + nI i = nI (93 + i) := q_add 93 i
theorem le2 {i : Nat} (h : i < 2147483648) : (2:Int32) ≤ nI i ↔ 2 ≤ i := nI_lei (a := 2) (by decide) h
theorem le3 {i : Nat} (h : i < 2147483648) : (3:Int32) ≤ nI i ↔ 3 ≤ i := nI_lei (a := 3) (by decide) h
theorem le8 {i : Nat} (h : i < 2147483648) : (8:Int32) ≤ nI i ↔ 8 ≤ i := nI_lei (a := 8) (by decide) h
theorem le64 {i : Nat} (h : i < 2147483648) : (64:Int32) ≤ nI i ↔ 64 ≤ i := nI_lei (a := 64) (by decide) h
theorem le100 {i : Nat} (h : i < 2147483648) : (100:Int32) ≤ nI i ↔ 100 ≤ i := nI_lei (a := 100) (by decide) h
theorem le157 {i : Nat} (h : i < 2147483648) : (157:Int32) ≤ nI i ↔ 157 ≤ i := nI_lei (a := 157) (by decide) h
theorem le2041 {i : Nat} (h : i < 2147483648) : (2041:Int32) ≤ nI i ↔ 2041 ≤ i := nI_lei (a := 2041) (by decide) h
theorem le14 {i : Nat} (h : i < 2147483648) : (14:Int32) ≤ nI i ↔ 14 ≤ i := nI_lei (a := 14) (by decide) h
theorem le1 {i : Nat} (h : i < 2147483648) : (1:Int32) ≤ nI i ↔ 1 ≤ i := nI_lei (a := 1) (by decide) h
theorem le0 {i : Nat} (h : i < 2147483648) : (0:Int32) ≤ nI i ↔ 0 ≤ i := nI_lei (a := 0) (by decide) h
theorem le99 {i : Nat} (h : i < 2147483648) : (99:Int32) ≤ nI i ↔ 99 ≤ i := nI_lei (a := 99) (by decide) h
theorem le126 {i : Nat} (h : i < 2147483648) : (126:Int32) ≤ nI i ↔ 126 ≤ i := nI_lei (a := 126) (by decide) h
theorem eq0 {i : Nat} (h : i < 2147483648) : nI i = (0:Int32) ↔ i = 0 := nI_inj (b := 0) h (by decide)
theorem eq8 {i : Nat} (h : i < 2147483648) : nI i = (8:Int32) ↔ i = 8 := nI_inj (b := 8) h (by decide)
theorem eq14 {i : Nat} (h : i < 2147483648) : nI i = (14:Int32) ↔ i = 14 := nI_inj (b := 14) h (by decide)
theorem eq1 {i : Nat} (h : i < 2147483648) : nI i = (1:Int32) ↔ i = 1 := nI_inj (b := 1) h (by decide)
theorem eq99 {i : Nat} (h : i < 2147483648) : nI i = (99:Int32) ↔ i = 99 := nI_inj (b := 99) h (by decide)
theorem eq100 {i : Nat} (h : i < 2147483648) : nI i = (100:Int32) ↔ i = 100 := nI_inj (b := 100) h (by decide)
theorem ge0 {i : Nat} (h : i < 2147483648) : nI i ≤ (0:Int32) ↔ i ≤ 0 := nI_lei (b := 0) h (by decide)
theorem lt100 {i : Nat} (h : i < 2147483648) : nI i < (100:Int32) ↔ i < 100 := nI_lti (b := 100) h (by decide)
theorem lt99 {i : Nat} (h : i < 2147483648) : nI i < (99:Int32) ↔ i < 99 := nI_lti (b := 99) h (by decide)
theorem lt0 {i : Nat} (h : i < 2147483648) : nI i < (0:Int32) ↔ i < 0 := nI_lti (b := 0) h (by decide)
theorem eq2 {i : Nat} (h : i < 2147483648) : nI i = (2:Int32) ↔ i = 2 := nI_inj (b := 2) h (by decide)
theorem eq3 {i : Nat} (h : i < 2147483648) : nI i = (3:Int32) ↔ i = 3 := nI_inj (b := 3) h (by decide)
theorem eq4 {i : Nat} (h : i < 2147483648) : nI i = (4:Int32) ↔ i = 4 := nI_inj (b := 4) h (by decide)
theorem eq5 {i : Nat} (h : i < 2147483648) : nI i = (5:Int32) ↔ i = 5 := nI_inj (b := 5) h (by decide)
theorem eq6 {i : Nat} (h : i < 2147483648) : nI i = (6:Int32) ↔ i = 6 := nI_inj (b := 6) h (by decide)
theorem eq7 {i : Nat} (h : i < 2147483648) : nI i = (7:Int32) ↔ i = 7 := nI_inj (b := 7) h (by decide)
theorem eq9 {i : Nat} (h : i < 2147483648) : nI i = (9:Int32) ↔ i = 9 := nI_inj (b := 9) h (by decide)
theorem eq10 {i : Nat} (h : i < 2147483648) : nI i = (10:Int32) ↔ i = 10 := nI_inj (b := 10) h (by decide)
theorem nat_of {x : Int32} (h : ¬ x < 0) : ∃ k : Nat, k < 2147483648 ∧ x = nI k := by
  refine ⟨x.toNatClampNeg, ?_, (Int32.ofNat_toNatClampNeg x (Int32.not_lt.mp h)).symm⟩
  have := Int32.toNatClampNeg_lt x
  simpa using this
theorem rng (x : Int32) (hi : Nat) (hh : hi < 2147483648) : x < 0 ∨ (¬ x < 0 ∧ nI hi < x) ∨ ∃ k, k ≤ hi ∧ x = nI k := by
  by_cases h : x < 0
  · exact Or.inl h
  · obtain ⟨k, h1, rfl⟩ := nat_of h
    by_cases h2 : k ≤ hi
    · exact Or.inr (Or.inr ⟨k, h2, rfl⟩)
    · exact Or.inr (Or.inl ⟨h, (nI_lti hh h1).mpr (by omega)⟩)
theorem zle : ((0:Int32) ≤ 0) = True := by simp
theorem ole : ((1:Int32) ≤ 0) = False := by simp
theorem twle : ((2:Int32) ≤ 0) = False := by simp
theorem thle : ((3:Int32) ≤ 0) = False := by simp
end
section
/-! natural numbers in rows -/
def nf (f : Nat → Nat) : Nat → Int32 := fun j => nI (f j)
def un (f : Nat → Nat) (i x : Nat) : Nat → Nat := fun j => if j = i then x else f j
theorem nf_at (f : Nat → Nat) (j : Nat) : nf f j = nI (f j) := (fun (_ : True) => rfl) trivial
theorem nf_un (f : Nat → Nat) (i x : Nat) : upd (nf f) i (nI x) = nf (un f i x) := by
  funext j
  unfold upd nf un
  by_cases h : j = i
  · rw [if_pos h, if_pos h]
  · rw [if_neg h, if_neg h]
theorem un_same (f : Nat → Nat) (i x : Nat) : un f i x i = x := by unfold un; rw [if_pos rfl]
theorem un_ne {f : Nat → Nat} {i j x : Nat} (h : j ≠ i) : un f i x j = f j := by unfold un; rw [if_neg h]
theorem un_self (f : Nat → Nat) (i : Nat) : un f i (f i) = f := by
  funext j
  unfold un
  by_cases h : j = i
  · rw [if_pos h, h]
  · rw [if_neg h]
theorem un_un (f : Nat → Nat) (i x y : Nat) : un (un f i x) i y = un f i y := by
  funext j
  unfold un
  by_cases h : j = i
  · rw [if_pos h, if_pos h]
  · rw [if_neg h, if_neg h, if_neg h]
/-- the sum over the first ones -/
def su : Nat → (Nat → Nat) → Nat
  | 0, _ => 0
  | n + 1, f => su n f + f n
theorem su_out {c i x : Nat} {f : Nat → Nat} (h : c ≤ i) : su c (un f i x) = su c f := by
  induction c with
  | zero => rfl
  | succ n ih => unfold su; rw [ih (by omega), un_ne (by omega)]
theorem su_un {c i x : Nat} {f : Nat → Nat} (h : i < c) : su c (un f i x) + f i = su c f + x := by
  induction c with
  | zero => omega
  | succ n ih =>
    unfold su
    by_cases e : i = n
    · subst e; rw [un_same, su_out (Nat.le_refl _)]; omega
    · rw [un_ne (by omega)]; have := ih (by omega); omega
theorem su_ge {c i : Nat} {f : Nat → Nat} (h : i < c) : f i ≤ su c f := by
  induction c with
  | zero => omega
  | succ n ih =>
    unfold su
    by_cases e : i = n
    · subst e; omega
    · have := ih (by omega); omega
theorem su_ext {c : Nat} {f f' : Nat → Nat} (h : ∀ j, j < c → f j = f' j) : su c f = su c f' := by
  induction c with
  | zero => rfl
  | succ n ih => unfold su; rw [ih (fun j hj => h j (by omega)), h n (by omega)]
theorem su_zero (c : Nat) : su c (fun _ => 0) = 0 := by
  induction c with
  | zero => rfl
  | succ n ih => unfold su; rw [ih]; rfl
theorem su_s (n : Nat) (f : Nat → Nat) : su (n + 1) f = su n f + f n := (fun (_ : True) => rfl) trivial
theorem nI_sub {a b : Nat} (h : b ≤ a) : nI a - nI b = nI (a - b) := (Int32.ofNat_sub a b h).symm
theorem nI_div {a b : Nat} (ha : a < 2147483648) (hb : b < 2147483648) : nI a / nI b = nI (a / b) := (Int32.ofNat_div (by simpa using ha) (by simpa using hb)).symm
theorem nI_rem {a b : Nat} (ha : a < 2147483648) (hb : b < 2147483648) : nI a - nI a / nI b * nI b = nI (a % b) := by
  rw [nI_div ha hb, q_mul, nI_sub (Nat.div_mul_le_self a b)]
  congr 1
  have := Nat.div_add_mod a b
  rw [Nat.mul_comm] at this
  omega
theorem nI_ltneg {a : Nat} (h : a < 2147483648) : nI a < (-99999:Int32) ↔ False := ⟨fun q => by
  rw [Int32.lt_iff_toInt_lt, nI_toInt (by simpa using h)] at q
  have h2 : (-99999 : Int32).toInt = -99999 := by decide
  omega, fun q => q.elim⟩
theorem add0 (x : Int32) : x + (0:Int32) = x := Int32.add_zero x
theorem mod_wrap {p k c : Nat} (hp : p < c) (hk : k < c) (h : c ≤ p + k) : (p + k) % c = p + k - c := by
  rw [Nat.mod_eq_sub_mod h, Nat.mod_eq_of_lt (by omega)]
/-- nothing from c on -/
def Zn (c : Nat) (f : Nat → Nat) : Prop := ∀ j, c ≤ j → f j = 0
def Zi (c : Nat) (f : Nat → Int32) : Prop := ∀ j, c ≤ j → f j = 0
theorem Zn.un {c i x : Nat} {f : Nat → Nat} (h : Zn c f) (hi : i < c) : Zn c (un f i x) := fun j hj => by rw [un_ne (by omega)]; exact h j hj
theorem Zi.upd {c i : Nat} {x : Int32} {f : Nat → Int32} (h : Zi c f) (hi : i < c) : Zi c (upd f i x) := fun j hj => by rw [upd_ne (by omega)]; exact h j hj
theorem Zn.up {c c' : Nat} {f : Nat → Nat} (h : Zn c f) (hc : c ≤ c') : Zn c' f := fun j hj => h j (by omega)
theorem Zi.up {c c' : Nat} {f : Nat → Int32} (h : Zi c f) (hc : c ≤ c') : Zi c' f := fun j hj => h j (by omega)
def Bo (a : Nat → Int32) : Prop := ∀ i, a i = 0 ∨ a i = 1
theorem Bo.upd {i : Nat} {x : Int32} {a : Nat → Int32} (h : Bo a) (hx : x = 0 ∨ x = 1) : Bo (upd a i x) := fun j => by
  by_cases e : j = i
  · subst e; rw [upd_same]; exact hx
  · rw [upd_ne e]; exact h j
def Gu (c : Nat) (a : Nat → Int32) : Prop := ∀ i, i < c → a i = (-99999:Int32) ∨ ∃ g, g < c ∧ g ≠ i ∧ a i = nI g
/-- debts: only between two members -/
def Db (c : Nat) (D : Nat → Nat) : Prop := ∀ k, D k ≠ 0 → ∃ i j, i < c ∧ j < c ∧ i ≠ j ∧ k = i * 8 + j
/-- one that is written: the same elsewhere -/
theorem un_le {f f' : Nat → Nat} {i x : Nat} (h : ∀ j, f' j ≤ f j) (hx : x ≤ f i) : ∀ j, un f' i x j ≤ f j := fun j => by
  by_cases e : j = i
  · subst e; rw [un_same]; exact hx
  · rw [un_ne e]; exact h j
theorem bd_r {A B : Type} {o : Option A} {a : A} {k : A → Option B} (h : o = some a) : bd o k = k a := by rw [h]; rfl
theorem el_in {S R B : Type} (s : S) (k : S → Option B) (g : R → B) : el (.inl s) k g = k s := (fun (_ : True) => rfl) trivial
end
section
/-! a month: the members pay -/
section PAY
variable {c m q B g : Nat} {P : Nat → Nat} {gu : Nat → Int32} {b : Nat → Nat} {aw ta ins : Nat → Int32} {F O G H S D : Nat → Nat}
variable {pd mg : Nat → Int32} {pn : Int32}
theorem pay1 (hc : c ≤ 8) (hi : Bo ins) (ha : Bo aw) (hP : ∀ j, P j ≤ 9000) (hq : q ≤ 20) : One (lp b_X1_payIn_7 FU (nI 0, (pd, mg, nI 0), (nI c, nI m, nI q, nI B, nI g, nf P, gu, nf b, aw, ta, ins, nf F, nf O, nf G, nf H, nf S, nf D))) (fun e => ∃ pd' mg' k P' F', e = (nI c, (pd', mg', nI (q * k)), (nI c, nI m, nI q, nI B, nI g, nf P', gu, nf b, aw, ta, ins, nf F', nf O, nf G, nf H, nf S, nf D)) ∧ k ≤ c ∧ su c P' + q * k = su c P ∧ su c F' = su c F + q * k ∧ (∀ j, P' j ≤ P j) ∧ (∀ j, F' j ≤ F j + 20) ∧ (∀ j, c ≤ j → F' j = F j) ∧ (∀ j, j < c → mg' j = 0 ∧ (pd' j = 0 ∨ pd' j = 1)) ∧ (∀ j, c ≤ j → mg' j = mg j ∧ pd' j = pd j) ∧ (k = 0 ∨ ∃ j, j < c ∧ ins j = 1)) := by
  refine lp_one (fun n s => ∃ i pd' mg' k P' F', s = (nI i, (pd', mg', nI (q * k)), (nI c, nI m, nI q, nI B, nI g, nf P', gu, nf b, aw, ta, ins, nf F', nf O, nf G, nf H, nf S, nf D)) ∧ i ≤ c ∧ n = c - i ∧ k ≤ i ∧ su c P' + q * k = su c P ∧ su c F' = su c F + q * k ∧ (∀ j, P' j ≤ P j) ∧ (∀ j, F' j ≤ F j + 20) ∧ (∀ j, i ≤ j → F' j = F j) ∧ (∀ j, j < i → mg' j = 0 ∧ (pd' j = 0 ∨ pd' j = 1)) ∧ (∀ j, c ≤ j → mg' j = mg j ∧ pd' j = pd j) ∧ (k = 0 ∨ ∃ j, j < c ∧ ins j = 1)) _ ?_ (n := c) ⟨0, pd, mg, 0, P, F, rfl, by omega, by omega, by omega, rfl, rfl, fun j => Nat.le_refl _, fun j => by omega, fun j _ => rfl, fun j h => by omega, fun j _ => ⟨rfl, rfl⟩, Or.inl rfl⟩ (FU_gt (by omega))
  rintro n s ⟨i, pd', mg', k, P', F', rfl, h1, rfl, h2, h3, h4, h5, h6, h7, h8, h9, h10⟩ J hJ
  by_cases h : i = c
  · subst h
    simp (disch := omega) only [b_X1_payIn_7, St_count, St_month, St_contribution, St_box, St_given, St_purse, St_guarantor, St_bid, St_away, St_taken, St_inside, St_paidForItself, St_paidForOthers, St_gotOfPot, St_shares, St_misses, St_debt, St_count_s, St_month_s, St_contribution_s, St_box_s, St_given_s, St_purse_s, St_guarantor_s, St_bid_s, St_away_s, St_taken_s, St_inside_s, St_paidForItself_s, St_paidForOthers_s, St_gotOfPot_s, St_shares_s, St_misses_s, St_debt_s, Rd_paid, Rd_missing, Rd_pence, Rd_paid_s, Rd_missing_s, Rd_pence_s, mul8, lt_e, bd_s, gi_ok, gz2, q_add, nI_s1, nI_clamp, upd_same, nar0, nar1, c0, nf_at, nf_un, nI_lei, Nat.le_refl, ↓reduceIte]
    exact ⟨pd', mg', k, P', F', rfl, h2, h3, h4, h5, h6, h7, h8, h9, h10⟩
  · have hic : i < c := by omega
    have nc : ¬ c ≤ i := by omega
    have b1 := h5 i
    have b2 := hP i
    have keep : ∀ (x : Int32), (x = 0 ∨ x = 1) → ∀ j, j < i + 1 → upd mg' i 0 j = 0 ∧ (upd pd' i x j = 0 ∨ upd pd' i x j = 1) := by
      intro x hx j hj
      by_cases e : j = i
      · subst e
        simp only [upd_same, true_and]
        exact hx
      · simp only [upd_ne e]
        exact h8 j (by omega)
    have far : ∀ (x : Int32), ∀ j, c ≤ j → upd mg' i 0 j = mg j ∧ upd pd' i x j = pd j := fun x j hj => by
      rw [upd_ne (by omega), upd_ne (by omega)]; exact h9 j hj
    have skip : J (nI (i + 1), (upd pd' i 0, upd mg' i 0, nI (q * k)), (nI c, nI m, nI q, nI B, nI g, nf P', gu, nf b, aw, ta, ins, nf F', nf O, nf G, nf H, nf S, nf D)) := hJ _ _ (by omega) ⟨i + 1, _, _, k, P', F', rfl, by omega, rfl, by omega, h3, h4, h5, h6, fun j hj => h7 j (by omega), keep 0 (Or.inl rfl), far 0, h10⟩
    rcases hi i with e1 | e1
    · simp (disch := omega) only [b_X1_payIn_7, St_count, St_month, St_contribution, St_box, St_given, St_purse, St_guarantor, St_bid, St_away, St_taken, St_inside, St_paidForItself, St_paidForOthers, St_gotOfPot, St_shares, St_misses, St_debt, St_count_s, St_month_s, St_contribution_s, St_box_s, St_given_s, St_purse_s, St_guarantor_s, St_bid_s, St_away_s, St_taken_s, St_inside_s, St_paidForItself_s, St_paidForOthers_s, St_gotOfPot_s, St_shares_s, St_misses_s, St_debt_s, Rd_paid, Rd_missing, Rd_pence, Rd_paid_s, Rd_missing_s, Rd_pence_s, mul8, lt_e, bd_s, gi_ok, gz2, q_add, nI_s1, nI_clamp, upd_same, nar0, nar1, c0, nf_at, nf_un, nI_lei, nc, e1, ↓reduceIte, z_ne, o_ne]
      exact skip
    · rcases ha i with e2 | e2
      · by_cases e3 : P' i < q
        · simp (disch := omega) only [b_X1_payIn_7, St_count, St_month, St_contribution, St_box, St_given, St_purse, St_guarantor, St_bid, St_away, St_taken, St_inside, St_paidForItself, St_paidForOthers, St_gotOfPot, St_shares, St_misses, St_debt, St_count_s, St_month_s, St_contribution_s, St_box_s, St_given_s, St_purse_s, St_guarantor_s, St_bid_s, St_away_s, St_taken_s, St_inside_s, St_paidForItself_s, St_paidForOthers_s, St_gotOfPot_s, St_shares_s, St_misses_s, St_debt_s, Rd_paid, Rd_missing, Rd_pence, Rd_paid_s, Rd_missing_s, Rd_pence_s, mul8, lt_e, bd_s, gi_ok, gz2, q_add, nI_s1, nI_clamp, upd_same, nar0, nar1, c0, nf_at, nf_un, nI_lei, nI_lti, nc, e1, e2, e3, ↓reduceIte, z_ne, o_ne]
          exact skip
        · simp (disch := omega) only [b_X1_payIn_7, St_count, St_month, St_contribution, St_box, St_given, St_purse, St_guarantor, St_bid, St_away, St_taken, St_inside, St_paidForItself, St_paidForOthers, St_gotOfPot, St_shares, St_misses, St_debt, St_count_s, St_month_s, St_contribution_s, St_box_s, St_given_s, St_purse_s, St_guarantor_s, St_bid_s, St_away_s, St_taken_s, St_inside_s, St_paidForItself_s, St_paidForOthers_s, St_gotOfPot_s, St_shares_s, St_misses_s, St_debt_s, Rd_paid, Rd_missing, Rd_pence, Rd_paid_s, Rd_missing_s, Rd_pence_s, mul8, lt_e, bd_s, gi_ok, gz2, q_add, nI_s1, nI_clamp, upd_same, nar0, nar1, c0, nf_at, nf_un, nI_lei, nI_lti, nI_sub, nc, e1, e2, e3, ↓reduceIte, z_ne, o_ne]
          have s1 := su_un (x := P' i - q) (f := P') hic
          have s2 := su_un (x := F' i + q) (f := F') hic
          have m1 : q * (k + 1) = q * k + q := Nat.mul_succ q k
          refine hJ _ _ (by omega) ⟨i + 1, _, _, k + 1, _, _, by rw [m1], by omega, rfl, by omega, by omega, by omega, un_le h5 (by omega), fun j => ?_, fun j hj => by rw [un_ne (by omega)]; exact h7 j (by omega), keep 1 (Or.inr rfl), far 1, Or.inr ⟨i, hic, e1⟩⟩
          by_cases e : j = i
          · subst e; rw [un_same, h7 j (Nat.le_refl _)]; omega
          · rw [un_ne e]; exact h6 j
      · simp (disch := omega) only [b_X1_payIn_7, St_count, St_month, St_contribution, St_box, St_given, St_purse, St_guarantor, St_bid, St_away, St_taken, St_inside, St_paidForItself, St_paidForOthers, St_gotOfPot, St_shares, St_misses, St_debt, St_count_s, St_month_s, St_contribution_s, St_box_s, St_given_s, St_purse_s, St_guarantor_s, St_bid_s, St_away_s, St_taken_s, St_inside_s, St_paidForItself_s, St_paidForOthers_s, St_gotOfPot_s, St_shares_s, St_misses_s, St_debt_s, Rd_paid, Rd_missing, Rd_pence, Rd_paid_s, Rd_missing_s, Rd_pence_s, mul8, lt_e, bd_s, gi_ok, gz2, q_add, nI_s1, nI_clamp, upd_same, nar0, nar1, c0, nf_at, nf_un, nI_lei, nc, e1, e2, ↓reduceIte, z_ne, o_ne]
        exact skip
theorem ex_no {v : StV} : f_X3_exists v (-99999:Int32) = some ((0:Int32), ()) := by
  unfold f_X3_exists
  rw [if_pos (by decide)]
theorem ex_yes {i : Nat} (h : i < c) (hc : c ≤ 8) : f_X3_exists (nI c, nI m, nI q, nI B, nI g, nf P, gu, nf b, aw, ta, ins, nf F, nf O, nf G, nf H, nf S, nf D) (nI i) = some ((1:Int32), ()) := by
  have n : ¬ c ≤ i := by omega
  simp (disch := omega) only [f_X3_exists, St_count, St_month, St_contribution, St_box, St_given, St_purse, St_guarantor, St_bid, St_away, St_taken, St_inside, St_paidForItself, St_paidForOthers, St_gotOfPot, St_shares, St_misses, St_debt, St_count_s, St_month_s, St_contribution_s, St_box_s, St_given_s, St_purse_s, St_guarantor_s, St_bid_s, St_away_s, St_taken_s, St_inside_s, St_paidForItself_s, St_paidForOthers_s, St_gotOfPot_s, St_shares_s, St_misses_s, St_debt_s, Rd_paid, Rd_missing, Rd_pence, Rd_paid_s, Rd_missing_s, Rd_pence_s, nI_nn, nI_lei, n, ↓reduceIte]
theorem pay2 (hc : c ≤ 8) (hi : Bo ins) (hg : Gu c gu) (hP : ∀ j, P j ≤ 9000) (hq : q ≤ 20) {t0 : Nat} (hm : ∀ j, j < c → mg j = 0 ∧ (pd j = 0 ∨ pd j = 1)) : One (lp b_X1_payIn_120 FU (nI 0, (pd, mg, nI t0), (nI c, nI m, nI q, nI B, nI g, nf P, gu, nf b, aw, ta, ins, nf F, nf O, nf G, nf H, nf S, nf D))) (fun e => ∃ mg' k P' O' S' D' d, e = (nI c, (pd, mg', nI (t0 + q * k)), (nI c, nI m, nI q, nI B, nI g, nf P', gu, nf b, aw, ta, ins, nf F, nf O', nf G, nf H, nf S', nf D')) ∧ k ≤ c ∧ su c P' + q * k = su c P ∧ su c O' = su c O + q * k ∧ su c S' = su c S + d ∧ d ≤ c ∧ (∀ j, P' j ≤ P j) ∧ (∀ j, c ≤ j → O' j = O j ∧ S' j = S j) ∧ (∀ k, D' k ≤ D k + 20) ∧ (Db c D → Db c D') ∧ (∀ j, j < c → (mg' j = 0 ∨ mg' j = 1)) ∧ (∀ j, c ≤ j → mg' j = mg j) ∧ (k = 0 ∨ ∃ j, j < c ∧ ins j = 1)) := by
  refine lp_one (fun n s => ∃ i mg' k P' O' S' D' d, s = (nI i, (pd, mg', nI (t0 + q * k)), (nI c, nI m, nI q, nI B, nI g, nf P', gu, nf b, aw, ta, ins, nf F, nf O', nf G, nf H, nf S', nf D')) ∧ i ≤ c ∧ n = c - i ∧ k ≤ i ∧ su c P' + q * k = su c P ∧ su c O' = su c O + q * k ∧ su c S' = su c S + d ∧ d ≤ i ∧ (∀ j, P' j ≤ P j) ∧ (∀ j, c ≤ j → O' j = O j ∧ S' j = S j) ∧ (∀ k, D' k ≤ D k + 20) ∧ (∀ k, i * 8 ≤ k → D' k = D k) ∧ (Db c D → Db c D') ∧ (∀ j, j < c → (mg' j = 0 ∨ mg' j = 1)) ∧ (∀ j, c ≤ j → mg' j = mg j) ∧ (k = 0 ∨ ∃ j, j < c ∧ ins j = 1)) _ ?_ (n := c) ⟨0, mg, 0, P, O, S, D, 0, rfl, by omega, by omega, by omega, rfl, rfl, rfl, by omega, fun j => Nat.le_refl _, fun j _ => ⟨rfl, rfl⟩, fun j => by omega, fun k _ => rfl, fun h => h, fun j hj => Or.inl (hm j hj).1, fun j _ => rfl, Or.inl rfl⟩ (FU_gt (by omega))
  rintro n s ⟨i, mg', k, P', O', S', D', d, rfl, h1, rfl, h2, h3, h4, h5, h6, h7, h8, h9, h10, h11, h12, h13, h14⟩ J hJ
  by_cases h : i = c
  · subst h
    simp (disch := omega) only [b_X1_payIn_120, St_count, St_month, St_contribution, St_box, St_given, St_purse, St_guarantor, St_bid, St_away, St_taken, St_inside, St_paidForItself, St_paidForOthers, St_gotOfPot, St_shares, St_misses, St_debt, St_count_s, St_month_s, St_contribution_s, St_box_s, St_given_s, St_purse_s, St_guarantor_s, St_bid_s, St_away_s, St_taken_s, St_inside_s, St_paidForItself_s, St_paidForOthers_s, St_gotOfPot_s, St_shares_s, St_misses_s, St_debt_s, Rd_paid, Rd_missing, Rd_pence, Rd_paid_s, Rd_missing_s, Rd_pence_s, mul8, lt_e, bd_s, gi_ok, gz2, q_add, nI_s1, nI_clamp, upd_same, nar0, nar1, c0, nf_at, nf_un, nI_lei, Nat.le_refl, ↓reduceIte]
    exact ⟨mg', k, P', O', S', D', d, rfl, h2, h3, h4, h5, h6, h7, h8, h9, h11, h12, h13, h14⟩
  · have hic : i < c := by omega
    have nc : ¬ c ≤ i := by omega
    have skip : J (nI (i + 1), (pd, mg', nI (t0 + q * k)), (nI c, nI m, nI q, nI B, nI g, nf P', gu, nf b, aw, ta, ins, nf F, nf O', nf G, nf H, nf S', nf D')) := hJ _ _ (by omega) ⟨i + 1, mg', k, _, _, _, _, d, rfl, by omega, rfl, by omega, h3, h4, h5, by omega, h7, h8, h9, fun k hk => h10 k (by omega), h11, h12, h13, h14⟩
    have miss : J (nI (i + 1), (pd, upd mg' i 1, nI (t0 + q * k)), (nI c, nI m, nI q, nI B, nI g, nf P', gu, nf b, aw, ta, ins, nf F, nf O', nf G, nf H, nf (un S' i (S' i + 1)), nf D')) := by
      have s1 := su_un (x := S' i + 1) (f := S') hic
      refine hJ _ _ (by omega) ⟨i + 1, _, k, _, _, _, _, d + 1, rfl, by omega, rfl, by omega, h3, h4, by omega, by omega, h7, fun j hj => by rw [un_ne (by omega)]; exact h8 j hj, h9, fun k hk => h10 k (by omega), h11, fun j hj => ?_, fun j hj => by rw [upd_ne (by omega)]; exact h13 j hj, h14⟩
      by_cases e : j = i
      · subst e; rw [upd_same]; exact Or.inr rfl
      · rw [upd_ne e]; exact h12 j hj
    rcases hi i with e1 | e1
    · simp (disch := omega) only [b_X1_payIn_120, St_count, St_month, St_contribution, St_box, St_given, St_purse, St_guarantor, St_bid, St_away, St_taken, St_inside, St_paidForItself, St_paidForOthers, St_gotOfPot, St_shares, St_misses, St_debt, St_count_s, St_month_s, St_contribution_s, St_box_s, St_given_s, St_purse_s, St_guarantor_s, St_bid_s, St_away_s, St_taken_s, St_inside_s, St_paidForItself_s, St_paidForOthers_s, St_gotOfPot_s, St_shares_s, St_misses_s, St_debt_s, Rd_paid, Rd_missing, Rd_pence, Rd_paid_s, Rd_missing_s, Rd_pence_s, mul8, lt_e, bd_s, gi_ok, gz2, q_add, nI_s1, nI_clamp, upd_same, nar0, nar1, c0, nf_at, nf_un, nI_lei, nc, e1, ↓reduceIte, z_ne, o_ne]
      exact skip
    · rcases (hm i hic).2 with e2 | e2
      · rcases hg i hic with e3 | ⟨g', hgc, hgi, e3⟩
        · simp (disch := omega) only [b_X1_payIn_120, f_X1_payForOther, ex_no, St_count, St_month, St_contribution, St_box, St_given, St_purse, St_guarantor, St_bid, St_away, St_taken, St_inside, St_paidForItself, St_paidForOthers, St_gotOfPot, St_shares, St_misses, St_debt, St_count_s, St_month_s, St_contribution_s, St_box_s, St_given_s, St_purse_s, St_guarantor_s, St_bid_s, St_away_s, St_taken_s, St_inside_s, St_paidForItself_s, St_paidForOthers_s, St_gotOfPot_s, St_shares_s, St_misses_s, St_debt_s, Rd_paid, Rd_missing, Rd_pence, Rd_paid_s, Rd_missing_s, Rd_pence_s, mul8, lt_e, bd_s, gi_ok, gz2, q_add, nI_s1, nI_clamp, upd_same, nar0, nar1, c0, nf_at, nf_un, nI_lei, nc, e1, e2, e3, ↓reduceIte, z_ne, o_ne]
          exact miss
        · have b1 := h7 g'
          have b2 := hP g'
          rcases (hm g' hgc).2 with e4 | e4
          · simp (disch := omega) only [b_X1_payIn_120, f_X1_payForOther, ex_yes, St_count, St_month, St_contribution, St_box, St_given, St_purse, St_guarantor, St_bid, St_away, St_taken, St_inside, St_paidForItself, St_paidForOthers, St_gotOfPot, St_shares, St_misses, St_debt, St_count_s, St_month_s, St_contribution_s, St_box_s, St_given_s, St_purse_s, St_guarantor_s, St_bid_s, St_away_s, St_taken_s, St_inside_s, St_paidForItself_s, St_paidForOthers_s, St_gotOfPot_s, St_shares_s, St_misses_s, St_debt_s, Rd_paid, Rd_missing, Rd_pence, Rd_paid_s, Rd_missing_s, Rd_pence_s, mul8, lt_e, bd_s, gi_ok, gz2, q_add, nI_s1, nI_clamp, upd_same, nar0, nar1, c0, nf_at, nf_un, nI_lei, nc, e1, e2, e3, e4, ↓reduceIte, z_ne, o_ne]
            exact miss
          · by_cases e5 : P' g' < q
            · simp (disch := omega) only [b_X1_payIn_120, f_X1_payForOther, ex_yes, St_count, St_month, St_contribution, St_box, St_given, St_purse, St_guarantor, St_bid, St_away, St_taken, St_inside, St_paidForItself, St_paidForOthers, St_gotOfPot, St_shares, St_misses, St_debt, St_count_s, St_month_s, St_contribution_s, St_box_s, St_given_s, St_purse_s, St_guarantor_s, St_bid_s, St_away_s, St_taken_s, St_inside_s, St_paidForItself_s, St_paidForOthers_s, St_gotOfPot_s, St_shares_s, St_misses_s, St_debt_s, Rd_paid, Rd_missing, Rd_pence, Rd_paid_s, Rd_missing_s, Rd_pence_s, mul8, lt_e, bd_s, gi_ok, gz2, q_add, nI_s1, nI_clamp, upd_same, nar0, nar1, c0, nf_at, nf_un, nI_lei, nI_lti, nc, e1, e2, e3, e4, e5, ↓reduceIte, z_ne, o_ne]
              exact miss
            · simp (disch := omega) only [b_X1_payIn_120, f_X1_payForOther, f_X3_pair, ex_yes, St_count, St_month, St_contribution, St_box, St_given, St_purse, St_guarantor, St_bid, St_away, St_taken, St_inside, St_paidForItself, St_paidForOthers, St_gotOfPot, St_shares, St_misses, St_debt, St_count_s, St_month_s, St_contribution_s, St_box_s, St_given_s, St_purse_s, St_guarantor_s, St_bid_s, St_away_s, St_taken_s, St_inside_s, St_paidForItself_s, St_paidForOthers_s, St_gotOfPot_s, St_shares_s, St_misses_s, St_debt_s, Rd_paid, Rd_missing, Rd_pence, Rd_paid_s, Rd_missing_s, Rd_pence_s, mul8, lt_e, bd_s, gi_ok, gz2, q_add, nI_s1, nI_clamp, upd_same, nar0, nar1, c0, nf_at, nf_un, nI_lei, nI_lti, nI_sub, nc, e1, e2, e3, e4, e5, ↓reduceIte, z_ne, o_ne]
              have s1 := su_un (x := P' g' - q) (f := P') hgc
              have s2 := su_un (x := O' g' + q) (f := O') hgc
              have m1 : q * (k + 1) = q * k + q := Nat.mul_succ q k
              refine hJ _ _ (by omega) ⟨i + 1, mg', k + 1, _, _, S', _, d, by rw [m1, Nat.add_assoc], by omega, rfl, by omega, by omega, by omega, h5, by omega, un_le h7 (by omega), fun j hj => ⟨by rw [un_ne (by omega)]; exact (h8 j hj).1, (h8 j hj).2⟩, fun j => ?_, fun j hj => by rw [un_ne (by omega)]; exact h10 j (by omega), fun hd j hj => ?_, h12, h13, Or.inr ⟨i, hic, e1⟩⟩
              · by_cases e : j = i * 8 + g'
                · subst e; rw [un_same, h10 _ (by omega)]; omega
                · rw [un_ne e]; exact h9 j
              · by_cases e : j = i * 8 + g'
                · exact ⟨i, g', hic, hgc, fun q => hgi q.symm, e⟩
                · rw [un_ne e] at hj; exact h11 hd j hj
      · simp (disch := omega) only [b_X1_payIn_120, St_count, St_month, St_contribution, St_box, St_given, St_purse, St_guarantor, St_bid, St_away, St_taken, St_inside, St_paidForItself, St_paidForOthers, St_gotOfPot, St_shares, St_misses, St_debt, St_count_s, St_month_s, St_contribution_s, St_box_s, St_given_s, St_purse_s, St_guarantor_s, St_bid_s, St_away_s, St_taken_s, St_inside_s, St_paidForItself_s, St_paidForOthers_s, St_gotOfPot_s, St_shares_s, St_misses_s, St_debt_s, Rd_paid, Rd_missing, Rd_pence, Rd_paid_s, Rd_missing_s, Rd_pence_s, mul8, lt_e, bd_s, gi_ok, gz2, q_add, nI_s1, nI_clamp, upd_same, nar0, nar1, c0, nf_at, nf_un, nI_lei, nc, e1, e2, ↓reduceIte, z_ne, o_ne]
        exact skip
/-- the first part of a month; the round that goes in does not matter -/
theorem payIn (hc : c ≤ 8) (hi : Bo ins) (ha : Bo aw) (hg : Gu c gu) (hP : ∀ j, P j ≤ 9000) (hq : q ≤ 20) (zp : Zi c pd) (zm : Zi c mg) : ∃ pd' mg' k P' F' O' S' D' d, f_X1_payIn (pd, mg, pn) (nI c, nI m, nI q, nI B, nI g, nf P, gu, nf b, aw, ta, ins, nf F, nf O, nf G, nf H, nf S, nf D) = some ((), ((pd', mg', nI (q * k)), (nI c, nI m, nI q, nI B, nI g, nf P', gu, nf b, aw, ta, ins, nf F', nf O', nf G, nf H, nf S', nf D'))) ∧ k ≤ 2 * c ∧ su c P' + q * k = su c P ∧ su c F' + su c O' = su c F + su c O + q * k ∧ su c S' = su c S + d ∧ d ≤ c ∧ (∀ j, P' j ≤ P j) ∧ (∀ j, F' j ≤ F j + 20) ∧ (∀ j, c ≤ j → F' j = F j ∧ O' j = O j ∧ S' j = S j) ∧ (∀ k, D' k ≤ D k + 20) ∧ (Db c D → Db c D') ∧ (∀ j, (mg' j = 0 ∨ mg' j = 1)) ∧ Zi c pd' ∧ Zi c mg' ∧ (k = 0 ∨ ∃ j, j < c ∧ ins j = 1) := by
  obtain ⟨e, a1, pd1, mg1, k1, P1, F1, rfl, b1, b2, b3, b4, b5, b6, b7, b8, b9⟩ := on_get (pay1 (pd := pd) (mg := mg) (m := m) (q := q) (B := B) (g := g) (gu := gu) (b := b) (ta := ta) (F := F) (O := O) (G := G) (H := H) (S := S) (D := D) hc hi ha hP hq)
  obtain ⟨e, a2, mg2, k2, P2, O2, S2, D2, d, rfl, c1, c2, c3, c4, c5, c6, c7, c8, c9, c10, c11, c12⟩ := on_get (pay2 (pd := pd1) (mg := mg1) (t0 := q * k1) (m := m) (q := q) (B := B) (g := g) (b := b) (aw := aw) (ta := ta) (P := P1) (F := F1) (O := O) (G := G) (H := H) (S := S) (D := D) hc hi hg (fun j => Nat.le_trans (b4 j) (hP j)) hq b7)
  have m1 : q * (k1 + k2) = q * k1 + q * k2 := Nat.mul_add q k1 k2
  have a1 : lp b_X1_payIn_7 FU ((0:Int32), (pd, mg, (0:Int32)), (nI c, nI m, nI q, nI B, nI g, nf P, gu, nf b, aw, ta, ins, nf F, nf O, nf G, nf H, nf S, nf D)) = _ := a1
  have a2 : lp b_X1_payIn_120 FU ((0:Int32), (pd1, mg1, nI (q * k1)), (nI c, nI m, nI q, nI B, nI g, nf P1, gu, nf b, aw, ta, ins, nf F1, nf O, nf G, nf H, nf S, nf D)) = _ := a2
  refine ⟨pd1, mg2, k1 + k2, P2, F1, O2, S2, D2, d, ?_, by omega, by omega, by omega, c4, c5, fun j => Nat.le_trans (c6 j) (b4 j), b5, fun j hj => ⟨b6 j hj, c7 j hj⟩, c8, c9, fun j => ?_, fun j hj => by rw [(b8 j hj).2]; exact zp j hj, fun j hj => by rw [c11 j hj, (b8 j hj).1]; exact zm j hj, ?_⟩
  · simp only [f_X1_payIn, St_count, St_month, St_contribution, St_box, St_given, St_purse, St_guarantor, St_bid, St_away, St_taken, St_inside, St_paidForItself, St_paidForOthers, St_gotOfPot, St_shares, St_misses, St_debt, St_count_s, St_month_s, St_contribution_s, St_box_s, St_given_s, St_purse_s, St_guarantor_s, St_bid_s, St_away_s, St_taken_s, St_inside_s, St_paidForItself_s, St_paidForOthers_s, St_gotOfPot_s, St_shares_s, St_misses_s, St_debt_s, Rd_paid, Rd_missing, Rd_pence, Rd_paid_s, Rd_missing_s, Rd_pence_s, lt_e, a1, bd_s, a2, m1]
  · by_cases hj : j < c
    · exact c10 j hj
    · exact Or.inl (by rw [c11 j (by omega), (b8 j (by omega)).1]; exact zm j (by omega))
  · rcases b9 with q1 | q1
    · rcases c12 with q2 | q2
      · exact Or.inl (by omega)
      · exact Or.inr q2
    · exact Or.inr q1
end PAY
end
section
/-! a month: what the members pay does not hang on the round that was before, nor on bids -/
section SAME
variable {c : Nat} {mo co bo gv : Int32} {pu gu bi aw ta ins pf po go sh ms de : Nat → Int32}
variable {pd mg pd2 mg2 bx : Nat → Int32} {pn pn2 : Int32}
theorem pay1_same (hc : c ≤ 8) (hi : Bo ins) (ha : Bo aw) : Two (lp b_X1_payIn_7 FU (nI 0, (pd, mg, pn), (nI c, mo, co, bo, gv, pu, gu, bi, aw, ta, ins, pf, po, go, sh, ms, de))) (lp b_X1_payIn_7 FU (nI 0, (pd2, mg2, pn), (nI c, mo, co, bo, gv, pu, gu, bx, aw, ta, ins, pf, po, go, sh, ms, de))) (fun e f => ∃ pd' mg' pn' pu' pf' pd2' mg2', e = (nI c, (pd', mg', pn'), (nI c, mo, co, bo, gv, pu', gu, bi, aw, ta, ins, pf', po, go, sh, ms, de)) ∧ f = (nI c, (pd2', mg2', pn'), (nI c, mo, co, bo, gv, pu', gu, bx, aw, ta, ins, pf', po, go, sh, ms, de)) ∧ (∀ j, j < c → pd2' j = pd' j ∧ mg2' j = mg' j ∧ (pd' j = 0 ∨ pd' j = 1)) ∧ (∀ j, c ≤ j → pd' j = pd j ∧ mg' j = mg j ∧ pd2' j = pd2 j ∧ mg2' j = mg2 j)) := by
  refine lp_two (fun n s t => ∃ i pd' mg' pn' pu' pf' pd2' mg2', s = (nI i, (pd', mg', pn'), (nI c, mo, co, bo, gv, pu', gu, bi, aw, ta, ins, pf', po, go, sh, ms, de)) ∧ t = (nI i, (pd2', mg2', pn'), (nI c, mo, co, bo, gv, pu', gu, bx, aw, ta, ins, pf', po, go, sh, ms, de)) ∧ i ≤ c ∧ n = c - i ∧ (∀ j, j < i → pd2' j = pd' j ∧ mg2' j = mg' j ∧ (pd' j = 0 ∨ pd' j = 1)) ∧ (∀ j, c ≤ j → pd' j = pd j ∧ mg' j = mg j ∧ pd2' j = pd2 j ∧ mg2' j = mg2 j)) _ ?_ (n := c) ⟨0, pd, mg, pn, pu, pf, pd2, mg2, rfl, rfl, by omega, by omega, fun j h => by omega, fun j _ => ⟨rfl, rfl, rfl, rfl⟩⟩ (FU_gt (by omega))
  rintro n s t ⟨i, pd', mg', pn', pu', pf', pd2', mg2', rfl, rfl, h1, rfl, h2, h3⟩ J hJ
  by_cases h : i = c
  · subst h
    simp (disch := omega) only [b_X1_payIn_7, St_count, St_month, St_contribution, St_box, St_given, St_purse, St_guarantor, St_bid, St_away, St_taken, St_inside, St_paidForItself, St_paidForOthers, St_gotOfPot, St_shares, St_misses, St_debt, St_count_s, St_month_s, St_contribution_s, St_box_s, St_given_s, St_purse_s, St_guarantor_s, St_bid_s, St_away_s, St_taken_s, St_inside_s, St_paidForItself_s, St_paidForOthers_s, St_gotOfPot_s, St_shares_s, St_misses_s, St_debt_s, Rd_paid, Rd_missing, Rd_pence, Rd_paid_s, Rd_missing_s, Rd_pence_s, mul8, lt_e, bd_s, gi_ok, gz2, q_add, nI_s1, nI_clamp, upd_same, nar0, nar1, c0, nf_at, nf_un, nI_lei, Nat.le_refl, ↓reduceIte]
    exact ⟨pd', mg', pn', pu', pf', pd2', mg2', rfl, rfl, h2, h3⟩
  · have hic : i < c := by omega
    have nc : ¬ c ≤ i := by omega
    have keep : ∀ (x : Int32), (x = 0 ∨ x = 1) → ∀ j, j < i + 1 → upd pd2' i x j = upd pd' i x j ∧ upd mg2' i 0 j = upd mg' i 0 j ∧ (upd pd' i x j = 0 ∨ upd pd' i x j = 1) := by
      intro x hx j hj
      by_cases e : j = i
      · subst e
        simp only [upd_same, true_and]
        exact hx
      · simp only [upd_ne e]
        exact h2 j (by omega)
    have far : ∀ (x : Int32), ∀ j, c ≤ j → upd pd' i x j = pd j ∧ upd mg' i 0 j = mg j ∧ upd pd2' i x j = pd2 j ∧ upd mg2' i 0 j = mg2 j := fun x j hj => by
      rw [upd_ne (by omega), upd_ne (by omega), upd_ne (by omega), upd_ne (by omega)]; exact h3 j hj
    have skip : J (nI (i + 1), (upd pd' i 0, upd mg' i 0, pn'), (nI c, mo, co, bo, gv, pu', gu, bi, aw, ta, ins, pf', po, go, sh, ms, de)) (nI (i + 1), (upd pd2' i 0, upd mg2' i 0, pn'), (nI c, mo, co, bo, gv, pu', gu, bx, aw, ta, ins, pf', po, go, sh, ms, de)) := hJ _ _ _ (by omega) ⟨i + 1, _, _, pn', _, _, _, _, rfl, rfl, by omega, rfl, keep 0 (Or.inl rfl), far 0⟩
    rcases hi i with e1 | e1
    · simp (disch := omega) only [b_X1_payIn_7, St_count, St_month, St_contribution, St_box, St_given, St_purse, St_guarantor, St_bid, St_away, St_taken, St_inside, St_paidForItself, St_paidForOthers, St_gotOfPot, St_shares, St_misses, St_debt, St_count_s, St_month_s, St_contribution_s, St_box_s, St_given_s, St_purse_s, St_guarantor_s, St_bid_s, St_away_s, St_taken_s, St_inside_s, St_paidForItself_s, St_paidForOthers_s, St_gotOfPot_s, St_shares_s, St_misses_s, St_debt_s, Rd_paid, Rd_missing, Rd_pence, Rd_paid_s, Rd_missing_s, Rd_pence_s, mul8, lt_e, bd_s, gi_ok, gz2, q_add, nI_s1, nI_clamp, upd_same, nar0, nar1, c0, nf_at, nf_un, nI_lei, nc, e1, ↓reduceIte, z_ne, o_ne]
      exact skip
    · rcases ha i with e2 | e2
      · by_cases e3 : pu' i < co
        · simp (disch := omega) only [b_X1_payIn_7, St_count, St_month, St_contribution, St_box, St_given, St_purse, St_guarantor, St_bid, St_away, St_taken, St_inside, St_paidForItself, St_paidForOthers, St_gotOfPot, St_shares, St_misses, St_debt, St_count_s, St_month_s, St_contribution_s, St_box_s, St_given_s, St_purse_s, St_guarantor_s, St_bid_s, St_away_s, St_taken_s, St_inside_s, St_paidForItself_s, St_paidForOthers_s, St_gotOfPot_s, St_shares_s, St_misses_s, St_debt_s, Rd_paid, Rd_missing, Rd_pence, Rd_paid_s, Rd_missing_s, Rd_pence_s, mul8, lt_e, bd_s, gi_ok, gz2, q_add, nI_s1, nI_clamp, upd_same, nar0, nar1, c0, nf_at, nf_un, nI_lei, nc, e1, e2, e3, ↓reduceIte, z_ne, o_ne]
          exact skip
        · simp (disch := omega) only [b_X1_payIn_7, St_count, St_month, St_contribution, St_box, St_given, St_purse, St_guarantor, St_bid, St_away, St_taken, St_inside, St_paidForItself, St_paidForOthers, St_gotOfPot, St_shares, St_misses, St_debt, St_count_s, St_month_s, St_contribution_s, St_box_s, St_given_s, St_purse_s, St_guarantor_s, St_bid_s, St_away_s, St_taken_s, St_inside_s, St_paidForItself_s, St_paidForOthers_s, St_gotOfPot_s, St_shares_s, St_misses_s, St_debt_s, Rd_paid, Rd_missing, Rd_pence, Rd_paid_s, Rd_missing_s, Rd_pence_s, mul8, lt_e, bd_s, gi_ok, gz2, q_add, nI_s1, nI_clamp, upd_same, nar0, nar1, c0, nf_at, nf_un, nI_lei, nc, e1, e2, e3, ↓reduceIte, z_ne, o_ne]
          exact hJ _ _ _ (by omega) ⟨i + 1, _, _, _, _, _, _, _, rfl, rfl, by omega, rfl, keep 1 (Or.inr rfl), far 1⟩
      · simp (disch := omega) only [b_X1_payIn_7, St_count, St_month, St_contribution, St_box, St_given, St_purse, St_guarantor, St_bid, St_away, St_taken, St_inside, St_paidForItself, St_paidForOthers, St_gotOfPot, St_shares, St_misses, St_debt, St_count_s, St_month_s, St_contribution_s, St_box_s, St_given_s, St_purse_s, St_guarantor_s, St_bid_s, St_away_s, St_taken_s, St_inside_s, St_paidForItself_s, St_paidForOthers_s, St_gotOfPot_s, St_shares_s, St_misses_s, St_debt_s, Rd_paid, Rd_missing, Rd_pence, Rd_paid_s, Rd_missing_s, Rd_pence_s, mul8, lt_e, bd_s, gi_ok, gz2, q_add, nI_s1, nI_clamp, upd_same, nar0, nar1, c0, nf_at, nf_un, nI_lei, nc, e1, e2, ↓reduceIte, z_ne, o_ne]
        exact skip
theorem ex_yesV {i : Nat} (h : i < c) (hc : c ≤ 8) : f_X3_exists (nI c, mo, co, bo, gv, pu, gu, bi, aw, ta, ins, pf, po, go, sh, ms, de) (nI i) = some ((1:Int32), ()) := by
  have n : ¬ c ≤ i := by omega
  simp (disch := omega) only [f_X3_exists, St_count, St_month, St_contribution, St_box, St_given, St_purse, St_guarantor, St_bid, St_away, St_taken, St_inside, St_paidForItself, St_paidForOthers, St_gotOfPot, St_shares, St_misses, St_debt, St_count_s, St_month_s, St_contribution_s, St_box_s, St_given_s, St_purse_s, St_guarantor_s, St_bid_s, St_away_s, St_taken_s, St_inside_s, St_paidForItself_s, St_paidForOthers_s, St_gotOfPot_s, St_shares_s, St_misses_s, St_debt_s, Rd_paid, Rd_missing, Rd_pence, Rd_paid_s, Rd_missing_s, Rd_pence_s, nI_nn, nI_lei, n, ↓reduceIte]
theorem pay2_same (hc : c ≤ 8) (hi : Bo ins) (hg : Gu c gu) (hm : ∀ j, j < c → (pd j = 0 ∨ pd j = 1)) : Two (lp b_X1_payIn_120 FU (nI 0, (pd, mg, pn), (nI c, mo, co, bo, gv, pu, gu, bi, aw, ta, ins, pf, po, go, sh, ms, de))) (lp b_X1_payIn_120 FU (nI 0, (pd, mg, pn), (nI c, mo, co, bo, gv, pu, gu, bx, aw, ta, ins, pf, po, go, sh, ms, de))) (fun e f => ∃ mg' pn' pu' po' ms' de', e = (nI c, (pd, mg', pn'), (nI c, mo, co, bo, gv, pu', gu, bi, aw, ta, ins, pf, po', go, sh, ms', de')) ∧ f = (nI c, (pd, mg', pn'), (nI c, mo, co, bo, gv, pu', gu, bx, aw, ta, ins, pf, po', go, sh, ms', de'))) := by
  refine lp_two (fun n s t => ∃ i mg' pn' pu' po' ms' de', s = (nI i, (pd, mg', pn'), (nI c, mo, co, bo, gv, pu', gu, bi, aw, ta, ins, pf, po', go, sh, ms', de')) ∧ t = (nI i, (pd, mg', pn'), (nI c, mo, co, bo, gv, pu', gu, bx, aw, ta, ins, pf, po', go, sh, ms', de')) ∧ i ≤ c ∧ n = c - i) _ ?_ (n := c) ⟨0, mg, pn, pu, po, ms, de, rfl, rfl, by omega, by omega⟩ (FU_gt (by omega))
  rintro n s t ⟨i, mg', pn', pu', po', ms', de', rfl, rfl, h1, rfl⟩ J hJ
  by_cases h : i = c
  · subst h
    simp (disch := omega) only [b_X1_payIn_120, St_count, St_month, St_contribution, St_box, St_given, St_purse, St_guarantor, St_bid, St_away, St_taken, St_inside, St_paidForItself, St_paidForOthers, St_gotOfPot, St_shares, St_misses, St_debt, St_count_s, St_month_s, St_contribution_s, St_box_s, St_given_s, St_purse_s, St_guarantor_s, St_bid_s, St_away_s, St_taken_s, St_inside_s, St_paidForItself_s, St_paidForOthers_s, St_gotOfPot_s, St_shares_s, St_misses_s, St_debt_s, Rd_paid, Rd_missing, Rd_pence, Rd_paid_s, Rd_missing_s, Rd_pence_s, mul8, lt_e, bd_s, gi_ok, gz2, q_add, nI_s1, nI_clamp, upd_same, nar0, nar1, c0, nf_at, nf_un, nI_lei, Nat.le_refl, ↓reduceIte]
    exact ⟨mg', pn', pu', po', ms', de', rfl, rfl⟩
  · have hic : i < c := by omega
    have nc : ¬ c ≤ i := by omega
    have skip : J (nI (i + 1), (pd, mg', pn'), (nI c, mo, co, bo, gv, pu', gu, bi, aw, ta, ins, pf, po', go, sh, ms', de')) (nI (i + 1), (pd, mg', pn'), (nI c, mo, co, bo, gv, pu', gu, bx, aw, ta, ins, pf, po', go, sh, ms', de')) := hJ _ _ _ (by omega) ⟨i + 1, mg', pn', _, _, _, _, rfl, rfl, by omega, rfl⟩
    have miss : J (nI (i + 1), (pd, upd mg' i 1, pn'), (nI c, mo, co, bo, gv, pu', gu, bi, aw, ta, ins, pf, po', go, sh, upd ms' i (ms' i + 1), de')) (nI (i + 1), (pd, upd mg' i 1, pn'), (nI c, mo, co, bo, gv, pu', gu, bx, aw, ta, ins, pf, po', go, sh, upd ms' i (ms' i + 1), de')) := hJ _ _ _ (by omega) ⟨i + 1, _, pn', _, _, _, _, rfl, rfl, by omega, rfl⟩
    rcases hi i with e1 | e1
    · simp (disch := omega) only [b_X1_payIn_120, St_count, St_month, St_contribution, St_box, St_given, St_purse, St_guarantor, St_bid, St_away, St_taken, St_inside, St_paidForItself, St_paidForOthers, St_gotOfPot, St_shares, St_misses, St_debt, St_count_s, St_month_s, St_contribution_s, St_box_s, St_given_s, St_purse_s, St_guarantor_s, St_bid_s, St_away_s, St_taken_s, St_inside_s, St_paidForItself_s, St_paidForOthers_s, St_gotOfPot_s, St_shares_s, St_misses_s, St_debt_s, Rd_paid, Rd_missing, Rd_pence, Rd_paid_s, Rd_missing_s, Rd_pence_s, mul8, lt_e, bd_s, gi_ok, gz2, q_add, nI_s1, nI_clamp, upd_same, nar0, nar1, c0, nf_at, nf_un, nI_lei, nc, e1, ↓reduceIte, z_ne, o_ne]
      exact skip
    · rcases hm i hic with e2 | e2
      · rcases hg i hic with e3 | ⟨g', hgc, -, e3⟩
        · simp (disch := omega) only [b_X1_payIn_120, f_X1_payForOther, ex_no, St_count, St_month, St_contribution, St_box, St_given, St_purse, St_guarantor, St_bid, St_away, St_taken, St_inside, St_paidForItself, St_paidForOthers, St_gotOfPot, St_shares, St_misses, St_debt, St_count_s, St_month_s, St_contribution_s, St_box_s, St_given_s, St_purse_s, St_guarantor_s, St_bid_s, St_away_s, St_taken_s, St_inside_s, St_paidForItself_s, St_paidForOthers_s, St_gotOfPot_s, St_shares_s, St_misses_s, St_debt_s, Rd_paid, Rd_missing, Rd_pence, Rd_paid_s, Rd_missing_s, Rd_pence_s, mul8, lt_e, bd_s, gi_ok, gz2, q_add, nI_s1, nI_clamp, upd_same, nar0, nar1, c0, nf_at, nf_un, nI_lei, nc, e1, e2, e3, ↓reduceIte, z_ne, o_ne]
          exact miss
        · rcases hm g' hgc with e4 | e4
          · simp (disch := omega) only [b_X1_payIn_120, f_X1_payForOther, ex_yesV, St_count, St_month, St_contribution, St_box, St_given, St_purse, St_guarantor, St_bid, St_away, St_taken, St_inside, St_paidForItself, St_paidForOthers, St_gotOfPot, St_shares, St_misses, St_debt, St_count_s, St_month_s, St_contribution_s, St_box_s, St_given_s, St_purse_s, St_guarantor_s, St_bid_s, St_away_s, St_taken_s, St_inside_s, St_paidForItself_s, St_paidForOthers_s, St_gotOfPot_s, St_shares_s, St_misses_s, St_debt_s, Rd_paid, Rd_missing, Rd_pence, Rd_paid_s, Rd_missing_s, Rd_pence_s, mul8, lt_e, bd_s, gi_ok, gz2, q_add, nI_s1, nI_clamp, upd_same, nar0, nar1, c0, nf_at, nf_un, nI_lei, nc, e1, e2, e3, e4, ↓reduceIte, z_ne, o_ne]
            exact miss
          · by_cases e5 : pu' g' < co
            · simp (disch := omega) only [b_X1_payIn_120, f_X1_payForOther, ex_yesV, St_count, St_month, St_contribution, St_box, St_given, St_purse, St_guarantor, St_bid, St_away, St_taken, St_inside, St_paidForItself, St_paidForOthers, St_gotOfPot, St_shares, St_misses, St_debt, St_count_s, St_month_s, St_contribution_s, St_box_s, St_given_s, St_purse_s, St_guarantor_s, St_bid_s, St_away_s, St_taken_s, St_inside_s, St_paidForItself_s, St_paidForOthers_s, St_gotOfPot_s, St_shares_s, St_misses_s, St_debt_s, Rd_paid, Rd_missing, Rd_pence, Rd_paid_s, Rd_missing_s, Rd_pence_s, mul8, lt_e, bd_s, gi_ok, gz2, q_add, nI_s1, nI_clamp, upd_same, nar0, nar1, c0, nf_at, nf_un, nI_lei, nc, e1, e2, e3, e4, e5, ↓reduceIte, z_ne, o_ne]
              exact miss
            · simp (disch := omega) only [b_X1_payIn_120, f_X1_payForOther, f_X3_pair, ex_yesV, St_count, St_month, St_contribution, St_box, St_given, St_purse, St_guarantor, St_bid, St_away, St_taken, St_inside, St_paidForItself, St_paidForOthers, St_gotOfPot, St_shares, St_misses, St_debt, St_count_s, St_month_s, St_contribution_s, St_box_s, St_given_s, St_purse_s, St_guarantor_s, St_bid_s, St_away_s, St_taken_s, St_inside_s, St_paidForItself_s, St_paidForOthers_s, St_gotOfPot_s, St_shares_s, St_misses_s, St_debt_s, Rd_paid, Rd_missing, Rd_pence, Rd_paid_s, Rd_missing_s, Rd_pence_s, mul8, lt_e, bd_s, gi_ok, gz2, q_add, nI_s1, nI_clamp, upd_same, nar0, nar1, c0, nf_at, nf_un, nI_lei, nc, e1, e2, e3, e4, e5, ↓reduceIte, z_ne, o_ne]
              exact hJ _ _ _ (by omega) ⟨i + 1, _, _, _, _, _, _, rfl, rfl, by omega, rfl⟩
      · simp (disch := omega) only [b_X1_payIn_120, St_count, St_month, St_contribution, St_box, St_given, St_purse, St_guarantor, St_bid, St_away, St_taken, St_inside, St_paidForItself, St_paidForOthers, St_gotOfPot, St_shares, St_misses, St_debt, St_count_s, St_month_s, St_contribution_s, St_box_s, St_given_s, St_purse_s, St_guarantor_s, St_bid_s, St_away_s, St_taken_s, St_inside_s, St_paidForItself_s, St_paidForOthers_s, St_gotOfPot_s, St_shares_s, St_misses_s, St_debt_s, Rd_paid, Rd_missing, Rd_pence, Rd_paid_s, Rd_missing_s, Rd_pence_s, mul8, lt_e, bd_s, gi_ok, gz2, q_add, nI_s1, nI_clamp, upd_same, nar0, nar1, c0, nf_at, nf_un, nI_lei, nc, e1, e2, ↓reduceIte, z_ne, o_ne]
        exact skip
theorem payIn_same (hc : c ≤ 8) (hi : Bo ins) (ha : Bo aw) (hg : Gu c gu) (zp : Zi c pd) (zm : Zi c mg) (zp2 : Zi c pd2) (zm2 : Zi c mg2) : ∃ rr pu' pf' po' ms' de', f_X1_payIn (pd, mg, pn) (nI c, mo, co, bo, gv, pu, gu, bi, aw, ta, ins, pf, po, go, sh, ms, de) = some ((), (rr, (nI c, mo, co, bo, gv, pu', gu, bi, aw, ta, ins, pf', po', go, sh, ms', de'))) ∧ f_X1_payIn (pd2, mg2, pn2) (nI c, mo, co, bo, gv, pu, gu, bx, aw, ta, ins, pf, po, go, sh, ms, de) = some ((), (rr, (nI c, mo, co, bo, gv, pu', gu, bx, aw, ta, ins, pf', po', go, sh, ms', de'))) := by
  obtain ⟨e, f, a1, a2, pd1, mg1, pn1, pu1, pf1, pd3, mg3, rfl, rfl, h1, h2⟩ := tw_get (pay1_same (pd := pd) (mg := mg) (pd2 := pd2) (mg2 := mg2) (bx := bx) (pn := (0:Int32)) (mo := mo) (co := co) (bo := bo) (gv := gv) (pu := pu) (gu := gu) (bi := bi) (ta := ta) (pf := pf) (po := po) (go := go) (sh := sh) (ms := ms) (de := de) hc hi ha)
  have e1 : pd3 = pd1 := by
    funext j
    by_cases hj : j < c
    · exact (h1 j hj).1
    · rw [(h2 j (by omega)).1, (h2 j (by omega)).2.2.1, zp j (by omega), zp2 j (by omega)]
  have e2 : mg3 = mg1 := by
    funext j
    by_cases hj : j < c
    · exact (h1 j hj).2.1
    · rw [(h2 j (by omega)).2.1, (h2 j (by omega)).2.2.2, zm j (by omega), zm2 j (by omega)]
  subst e1; subst e2
  obtain ⟨e, f, b1, b2, mg4, pn4, pu4, po4, ms4, de4, rfl, rfl⟩ := tw_get (pay2_same (pd := pd3) (mg := mg3) (bx := bx) (pn := pn1) (mo := mo) (co := co) (bo := bo) (gv := gv) (pu := pu1) (bi := bi) (aw := aw) (ta := ta) (pf := pf1) (po := po) (go := go) (sh := sh) (ms := ms) (de := de) hc hi hg (fun j hj => (h1 j hj).2.2))
  have a1 : lp b_X1_payIn_7 FU ((0:Int32), (pd, mg, (0:Int32)), (nI c, mo, co, bo, gv, pu, gu, bi, aw, ta, ins, pf, po, go, sh, ms, de)) = _ := a1
  have a2 : lp b_X1_payIn_7 FU ((0:Int32), (pd2, mg2, (0:Int32)), (nI c, mo, co, bo, gv, pu, gu, bx, aw, ta, ins, pf, po, go, sh, ms, de)) = _ := a2
  have b1 : lp b_X1_payIn_120 FU ((0:Int32), (pd3, mg3, pn1), (nI c, mo, co, bo, gv, pu1, gu, bi, aw, ta, ins, pf1, po, go, sh, ms, de)) = _ := b1
  have b2 : lp b_X1_payIn_120 FU ((0:Int32), (pd3, mg3, pn1), (nI c, mo, co, bo, gv, pu1, gu, bx, aw, ta, ins, pf1, po, go, sh, ms, de)) = _ := b2
  exact ⟨(pd3, mg4, pn4), pu4, pf1, po4, ms4, de4, by simp only [f_X1_payIn, St_count, St_month, St_contribution, St_box, St_given, St_purse, St_guarantor, St_bid, St_away, St_taken, St_inside, St_paidForItself, St_paidForOthers, St_gotOfPot, St_shares, St_misses, St_debt, St_count_s, St_month_s, St_contribution_s, St_box_s, St_given_s, St_purse_s, St_guarantor_s, St_bid_s, St_away_s, St_taken_s, St_inside_s, St_paidForItself_s, St_paidForOthers_s, St_gotOfPot_s, St_shares_s, St_misses_s, St_debt_s, Rd_paid, Rd_missing, Rd_pence, Rd_paid_s, Rd_missing_s, Rd_pence_s, lt_e, a1, bd_s, b1], by simp only [f_X1_payIn, St_count, St_month, St_contribution, St_box, St_given, St_purse, St_guarantor, St_bid, St_away, St_taken, St_inside, St_paidForItself, St_paidForOthers, St_gotOfPot, St_shares, St_misses, St_debt, St_count_s, St_month_s, St_contribution_s, St_box_s, St_given_s, St_purse_s, St_guarantor_s, St_bid_s, St_away_s, St_taken_s, St_inside_s, St_paidForItself_s, St_paidForOthers_s, St_gotOfPot_s, St_shares_s, St_misses_s, St_debt_s, Rd_paid, Rd_missing, Rd_pence, Rd_paid_s, Rd_missing_s, Rd_pence_s, lt_e, a2, bd_s, b2]⟩
end SAME
end
section
/-! a month: who takes the pot -/
section TAKE
variable {c : Nat} {mo co bo gv : Int32} {pu gu bi aw ta ins pf po go sh ms de : Nat → Int32}
variable {pd mg : Nat → Int32} {pn : Int32}
/-- what a bid counts for -/
def cbd (p b : Int32) : Int32 := if p / (2:Int32) < b then p / (2:Int32) else b
theorem bid_x {i : Nat} (h : i < c) (hc : c ≤ 8) : f_X1_countedBid (pd, mg, pn) (nI c, mo, co, bo, gv, pu, gu, bi, aw, ta, ins, pf, po, go, sh, ms, de) (nI i) = some (cbd pn (bi i), ()) := by
  simp (disch := omega) only [f_X1_countedBid, St_count, St_month, St_contribution, St_box, St_given, St_purse, St_guarantor, St_bid, St_away, St_taken, St_inside, St_paidForItself, St_paidForOthers, St_gotOfPot, St_shares, St_misses, St_debt, St_count_s, St_month_s, St_contribution_s, St_box_s, St_given_s, St_purse_s, St_guarantor_s, St_bid_s, St_away_s, St_taken_s, St_inside_s, St_paidForItself_s, St_paidForOthers_s, St_gotOfPot_s, St_shares_s, St_misses_s, St_debt_s, Rd_paid, Rd_missing, Rd_pence, Rd_paid_s, Rd_missing_s, Rd_pence_s, mul8, lt_e, bd_s, gi_ok, gz2, q_add, nI_s1, nI_clamp, upd_same, nar0, nar1, c0, nf_at, nf_un, cbd]
theorem part_x {i : Nat} (h : i < c) (hc : c ≤ 8) : f_X1_takesPart (pd, mg, pn) (nI c, mo, co, bo, gv, pu, gu, bi, aw, ta, ins, pf, po, go, sh, ms, de) (nI i) = some (if ins i = 0 then 0 else if mg i = 0 then 1 else 0, ()) := by
  simp (disch := omega) only [f_X1_takesPart, St_count, St_month, St_contribution, St_box, St_given, St_purse, St_guarantor, St_bid, St_away, St_taken, St_inside, St_paidForItself, St_paidForOthers, St_gotOfPot, St_shares, St_misses, St_debt, St_count_s, St_month_s, St_contribution_s, St_box_s, St_given_s, St_purse_s, St_guarantor_s, St_bid_s, St_away_s, St_taken_s, St_inside_s, St_paidForItself_s, St_paidForOthers_s, St_gotOfPot_s, St_shares_s, St_misses_s, St_debt_s, Rd_paid, Rd_missing, Rd_pence, Rd_paid_s, Rd_missing_s, Rd_pence_s, mul8, lt_e, bd_s, gi_ok, gz2, q_add, nI_s1, nI_clamp, upd_same, nar0, nar1, c0, nf_at, nf_un]
  by_cases h1 : ins i = 0 <;> by_cases h2 : mg i = 0 <;> simp only [h1, h2, ↓reduceIte]
theorem can_x {i : Nat} (h : i < c) (hc : c ≤ 8) : f_X1_canTake (pd, mg, pn) (nI c, mo, co, bo, gv, pu, gu, bi, aw, ta, ins, pf, po, go, sh, ms, de) (nI i) = some (if ins i = 0 then 0 else if mg i = 0 then (if ta i = 0 then 1 else 0) else 0, ()) := by
  rw [f_X1_canTake, part_x h hc]
  simp (disch := omega) only [St_count, St_month, St_contribution, St_box, St_given, St_purse, St_guarantor, St_bid, St_away, St_taken, St_inside, St_paidForItself, St_paidForOthers, St_gotOfPot, St_shares, St_misses, St_debt, St_count_s, St_month_s, St_contribution_s, St_box_s, St_given_s, St_purse_s, St_guarantor_s, St_bid_s, St_away_s, St_taken_s, St_inside_s, St_paidForItself_s, St_paidForOthers_s, St_gotOfPot_s, St_shares_s, St_misses_s, St_debt_s, Rd_paid, Rd_missing, Rd_pence, Rd_paid_s, Rd_missing_s, Rd_pence_s, mul8, lt_e, bd_s, gi_ok, gz2, q_add, nI_s1, nI_clamp, upd_same, nar0, nar1, c0, nf_at, nf_un]
  by_cases h1 : ins i = 0 <;> by_cases h2 : mg i = 0 <;> by_cases h3 : ta i = 0 <;> simp only [h1, h2, h3, z_ne, o_ne, ↓reduceIte]
/-- the taker: over the members in their order from the one that is first -/
def cnT (ins mg ta : Nat → Int32) (i : Nat) : Bool := ins i == 1 && mg i == 0 && ta i == 0
def tkB (can : Nat → Bool) (cb : Nat → Int32) (b : Int32) (i : Nat) : Int32 := if can i = true then (if b = (-99999:Int32) then nI i else if cb i ≤ cb b.toNatClampNeg then b else nI i) else b
def tkS (can : Nat → Bool) (cb : Nat → Int32) (p c : Nat) : Nat → Int32
  | 0 => (-99999:Int32)
  | k + 1 => tkB can cb (tkS can cb p c k) ((p + k) % c)
theorem tkS_is {can : Nat → Bool} {cb : Nat → Int32} {p c : Nat} (hc : 0 < c) : ∀ k, tkS can cb p c k = (-99999:Int32) ∨ ∃ j, j < c ∧ can j = true ∧ tkS can cb p c k = nI j
  | 0 => Or.inl rfl
  | k + 1 => by
    have hm : (p + k) % c < c := Nat.mod_lt _ hc
    unfold tkS tkB
    by_cases h1 : can ((p + k) % c) = true
    · rw [if_pos h1]
      by_cases h2 : tkS can cb p c k = (-99999:Int32)
      · rw [if_pos h2]; exact Or.inr ⟨_, hm, h1, rfl⟩
      · rw [if_neg h2]
        split
        · exact tkS_is hc k
        · exact Or.inr ⟨_, hm, h1, rfl⟩
    · rw [if_neg h1]; exact tkS_is hc k
theorem cnT_no {mg ta : Nat → Int32} {i : Nat} (h : ins i = 0 ∨ mg i = 1 ∨ ta i = 1) : cnT ins mg ta i = false := by
  unfold cnT
  rcases h with h | h | h <;> rw [h] <;> simp
theorem cnT_yes {mg ta : Nat → Int32} {i : Nat} (h : ins i = 1) (h1 : mg i = 0) (h2 : ta i = 0) : cnT ins mg ta i = true := by
  unfold cnT
  rw [h, h1, h2]; rfl
theorem take_x (hc : c ≤ 8) (hi : Bo ins) (ht : Bo ta) (hm : ∀ j, j < c → (mg j = 0 ∨ mg j = 1)) {p : Nat} (hp : p < c ∨ c = 0) : One (lp (b_X1_taker_27 (pd, mg, pn) (nI c, mo, co, bo, gv, pu, gu, bi, aw, ta, ins, pf, po, go, sh, ms, de) (nI p)) FU ((-99999:Int32), nI 0)) (fun e => e = (tkS (cnT ins mg ta) (fun i => cbd pn (bi i)) p c c, nI c)) := by
  refine lp_one (fun n s => ∃ k, s = (tkS (cnT ins mg ta) (fun i => cbd pn (bi i)) p c k, nI k) ∧ k ≤ c ∧ n = c - k) _ ?_ (n := c) ⟨0, rfl, by omega, by omega⟩ (FU_gt (by omega))
  rintro n s ⟨k, rfl, h1, rfl⟩ J hJ
  by_cases h : k = c
  · subst h
    simp (disch := omega) only [b_X1_taker_27, St_count, St_month, St_contribution, St_box, St_given, St_purse, St_guarantor, St_bid, St_away, St_taken, St_inside, St_paidForItself, St_paidForOthers, St_gotOfPot, St_shares, St_misses, St_debt, St_count_s, St_month_s, St_contribution_s, St_box_s, St_given_s, St_purse_s, St_guarantor_s, St_bid_s, St_away_s, St_taken_s, St_inside_s, St_paidForItself_s, St_paidForOthers_s, St_gotOfPot_s, St_shares_s, St_misses_s, St_debt_s, Rd_paid, Rd_missing, Rd_pence, Rd_paid_s, Rd_missing_s, Rd_pence_s, mul8, lt_e, bd_s, gi_ok, gz2, q_add, nI_s1, nI_clamp, upd_same, nar0, nar1, c0, nf_at, nf_un, nI_lei, Nat.le_refl, ↓reduceIte]
    rfl
  · have hk : k < c := by omega
    have hpc : p < c := by omega
    have nk : ¬ c ≤ k := by omega
    have next : J (tkB (cnT ins mg ta) (fun i => cbd pn (bi i)) (tkS (cnT ins mg ta) (fun i => cbd pn (bi i)) p c k) ((p + k) % c), nI (k + 1)) := hJ _ _ (by omega) ⟨k + 1, rfl, by omega, rfl⟩
    have hb := tkS_is (can := cnT ins mg ta) (cb := fun i => cbd pn (bi i)) (p := p) (c := c) (by omega) k
    generalize tkS (cnT ins mg ta) (fun i => cbd pn (bi i)) p c k = b at next hb ⊢
    have key : ∀ i, i < c → i = (p + k) % c → Sto (bd (f_X1_canTake (pd, mg, pn) (nI c, mo, co, bo, gv, pu, gu, bi, aw, ta, ins, pf, po, go, sh, ms, de) (nI i)) (fun (q5 : Int32 × (Unit)) => (if q5.1 = (0:Int32) then some (Sum.inl (b, nI (k + 1))) else (if b = (-99999:Int32) then some (Sum.inl (nI i, nI (k + 1))) else bd (f_X1_countedBid (pd, mg, pn) (nI c, mo, co, bo, gv, pu, gu, bi, aw, ta, ins, pf, po, go, sh, ms, de) (nI i)) (fun (q10 : Int32 × (Unit)) => bd (f_X1_countedBid (pd, mg, pn) (nI c, mo, co, bo, gv, pu, gu, bi, aw, ta, ins, pf, po, go, sh, ms, de) b) (fun (q11 : Int32 × (Unit)) => (if q10.1 ≤ q11.1 then some (Sum.inl (b, nI (k + 1))) else some (Sum.inl (nI i, nI (k + 1)))))))))) J (fun e => e = (tkS (cnT ins mg ta) (fun i => cbd pn (bi i)) p c c, nI c)) := by
      intro i hic he
      rw [← he] at next
      rw [can_x hic hc]
      unfold tkB at next
      rcases hi i with e1 | e1
      · simp only [bd_s, e1, ↓reduceIte]
        rw [if_neg (by rw [cnT_no (Or.inl e1)]; decide)] at next
        exact next
      · rcases hm i hic with e2 | e2
        · rcases ht i with e3 | e3
          · rw [if_pos (cnT_yes e1 e2 e3)] at next
            rcases hb with rfl | ⟨j, hj, -, rfl⟩
            · simp only [bd_s, e1, e2, e3, z_ne, o_ne, ↓reduceIte] at next ⊢
              exact next
            · simp (disch := omega) only [bd_s, e1, e2, e3, z_ne, o_ne, nI_neg, nI_clamp, bid_x, ↓reduceIte] at next ⊢
              by_cases h5 : cbd pn (bi i) ≤ cbd pn (bi j)
              · rw [if_pos h5] at next ⊢; exact next
              · rw [if_neg h5] at next ⊢; exact next
          · simp only [bd_s, e1, e2, e3, z_ne, o_ne, ↓reduceIte]
            rw [if_neg (by rw [cnT_no (Or.inr (Or.inr e3))]; decide)] at next
            exact next
        · simp only [bd_s, e1, e2, z_ne, o_ne, ↓reduceIte]
          rw [if_neg (by rw [cnT_no (Or.inr (Or.inl e2))]; decide)] at next
          exact next
    by_cases h5 : c ≤ p + k
    · simp (disch := omega) only [b_X1_taker_27, St_count, St_month, St_contribution, St_box, St_given, St_purse, St_guarantor, St_bid, St_away, St_taken, St_inside, St_paidForItself, St_paidForOthers, St_gotOfPot, St_shares, St_misses, St_debt, St_count_s, St_month_s, St_contribution_s, St_box_s, St_given_s, St_purse_s, St_guarantor_s, St_bid_s, St_away_s, St_taken_s, St_inside_s, St_paidForItself_s, St_paidForOthers_s, St_gotOfPot_s, St_shares_s, St_misses_s, St_debt_s, Rd_paid, Rd_missing, Rd_pence, Rd_paid_s, Rd_missing_s, Rd_pence_s, lt, q_add, nI_s1, nI_lei, nI_sub, nk, h5, ↓reduceIte]
      exact key (p + k - c) (by omega) (mod_wrap hpc hk h5).symm
    · simp (disch := omega) only [b_X1_taker_27, St_count, St_month, St_contribution, St_box, St_given, St_purse, St_guarantor, St_bid, St_away, St_taken, St_inside, St_paidForItself, St_paidForOthers, St_gotOfPot, St_shares, St_misses, St_debt, St_count_s, St_month_s, St_contribution_s, St_box_s, St_given_s, St_purse_s, St_guarantor_s, St_bid_s, St_away_s, St_taken_s, St_inside_s, St_paidForItself_s, St_paidForOthers_s, St_gotOfPot_s, St_shares_s, St_misses_s, St_debt_s, Rd_paid, Rd_missing, Rd_pence, Rd_paid_s, Rd_missing_s, Rd_pence_s, lt, q_add, nI_s1, nI_lei, nk, h5, ↓reduceIte]
      exact key (p + k) (by omega) (Nat.mod_eq_of_lt (by omega)).symm
theorem taker_x (hc : c ≤ 8) (hi : Bo ins) (ht : Bo ta) (hm : ∀ j, j < c → (mg j = 0 ∨ mg j = 1)) {m : Nat} (hmo : mo = nI m) (hml : m ≤ 2000) : f_X1_taker (pd, mg, pn) (nI c, mo, co, bo, gv, pu, gu, bi, aw, ta, ins, pf, po, go, sh, ms, de) = some (tkS (cnT ins mg ta) (fun i => cbd pn (bi i)) (m % c) c c, ()) := by
  subst hmo
  by_cases h0 : c = 0
  · subst h0
    obtain ⟨e, h1, rfl⟩ := on_get (take_x (mo := nI m) (co := co) (bo := bo) (gv := gv) (pu := pu) (gu := gu) (bi := bi) (aw := aw) (pf := pf) (po := po) (go := go) (sh := sh) (ms := ms) (de := de) (pd := pd) (pn := pn) hc hi ht hm (p := 0) (Or.inr rfl))
    have h1 : lp (b_X1_taker_27 (pd, mg, pn) (nI 0, nI m, co, bo, gv, pu, gu, bi, aw, ta, ins, pf, po, go, sh, ms, de) (0:Int32)) FU ((-99999:Int32), (0:Int32)) = _ := h1
    simp (disch := omega) only [f_X1_taker, St_count, St_month, St_contribution, St_box, St_given, St_purse, St_guarantor, St_bid, St_away, St_taken, St_inside, St_paidForItself, St_paidForOthers, St_gotOfPot, St_shares, St_misses, St_debt, St_count_s, St_month_s, St_contribution_s, St_box_s, St_given_s, St_purse_s, St_guarantor_s, St_bid_s, St_away_s, St_taken_s, St_inside_s, St_paidForItself_s, St_paidForOthers_s, St_gotOfPot_s, St_shares_s, St_misses_s, St_debt_s, Rd_paid, Rd_missing, Rd_pence, Rd_paid_s, Rd_missing_s, Rd_pence_s, ge0, Nat.le_refl, ↓reduceIte, h1, bd_s]
    rfl
  · obtain ⟨e, h1, rfl⟩ := on_get (take_x (mo := nI m) (co := co) (bo := bo) (gv := gv) (pu := pu) (gu := gu) (bi := bi) (aw := aw) (pf := pf) (po := po) (go := go) (sh := sh) (ms := ms) (de := de) (pd := pd) (pn := pn) hc hi ht hm (p := m % c) (Or.inl (Nat.mod_lt _ (by omega))))
    have h1 : lp (b_X1_taker_27 (pd, mg, pn) (nI c, nI m, co, bo, gv, pu, gu, bi, aw, ta, ins, pf, po, go, sh, ms, de) (nI (m % c))) FU ((-99999:Int32), (0:Int32)) = _ := h1
    have n0 : ¬ c ≤ 0 := by omega
    have nz : ¬ nI c = 0 := by
      intro h
      exact h0 ((nI_inj (b := 0) (by omega) (by omega)).mp h)
    simp (disch := omega) only [f_X1_taker, St_count, St_month, St_contribution, St_box, St_given, St_purse, St_guarantor, St_bid, St_away, St_taken, St_inside, St_paidForItself, St_paidForOthers, St_gotOfPot, St_shares, St_misses, St_debt, St_count_s, St_month_s, St_contribution_s, St_box_s, St_given_s, St_purse_s, St_guarantor_s, St_bid_s, St_away_s, St_taken_s, St_inside_s, St_paidForItself_s, St_paidForOthers_s, St_gotOfPot_s, St_shares_s, St_misses_s, St_debt_s, Rd_paid, Rd_missing, Rd_pence, Rd_paid_s, Rd_missing_s, Rd_pence_s, lt, ge0, gz, n0, nz, nI_rem, ↓reduceIte, h1, bd_s]
/-- who else takes part -/
def oth (ins mg : Nat → Int32) (w i : Nat) : Bool := !(i == w) && (ins i == 1 && mg i == 0)
def othN (ins mg : Nat → Int32) (w : Nat) : Nat → Nat
  | 0 => 0
  | k + 1 => othN ins mg w k + (if oth ins mg w k = true then 1 else 0)
theorem othN_le {mg : Nat → Int32} {w : Nat} : ∀ k, othN ins mg w k ≤ k
  | 0 => Nat.le_refl 0
  | k + 1 => by
    have := othN_le (mg := mg) (w := w) k
    unfold othN
    split <;> omega
theorem oth_eq {w : Nat} : oth ins mg w w = false := by simp [oth]
theorem oth_no {w i : Nat} (h : ins i = 0 ∨ mg i = 1) : oth ins mg w i = false := by
  unfold oth
  rcases h with h | h <;> rw [h] <;> simp
theorem oth_yes {w i : Nat} (h0 : i ≠ w) (h : ins i = 1) (h1 : mg i = 0) : oth ins mg w i = true := by
  unfold oth
  rw [h, h1]
  simp [h0]
theorem settle_x {w j : Nat} (hw : w < 8) (hj : j < 8) {r : Int32} : f_X3_settle (nI c, mo, co, bo, gv, pu, gu, bi, aw, ta, ins, pf, po, go, sh, ms, de) (nI w) (nI j) r = some (if r < de (w * 8 + j) then r else de (w * 8 + j), (nI c, mo, co, bo, gv, upd pu j (pu j + (if r < de (w * 8 + j) then r else de (w * 8 + j))), gu, bi, aw, ta, ins, pf, po, go, sh, ms, upd de (w * 8 + j) (de (w * 8 + j) - (if r < de (w * 8 + j) then r else de (w * 8 + j))))) := by
  simp (disch := omega) only [f_X3_settle, f_X3_pair, St_count, St_month, St_contribution, St_box, St_given, St_purse, St_guarantor, St_bid, St_away, St_taken, St_inside, St_paidForItself, St_paidForOthers, St_gotOfPot, St_shares, St_misses, St_debt, St_count_s, St_month_s, St_contribution_s, St_box_s, St_given_s, St_purse_s, St_guarantor_s, St_bid_s, St_away_s, St_taken_s, St_inside_s, St_paidForItself_s, St_paidForOthers_s, St_gotOfPot_s, St_shares_s, St_misses_s, St_debt_s, Rd_paid, Rd_missing, Rd_pence, Rd_paid_s, Rd_missing_s, Rd_pence_s, mul8, lt_e, bd_s, gi_ok, gz2, q_add, nI_s1, nI_clamp, upd_same, nar0, nar1, c0, nf_at, nf_un]
end TAKE
end
section
/-! a month: who takes it, by what the bids count for -/
def kb (t : Nat) (b : Nat → Nat) (i : Nat) : Nat := if t / 2 < b i then t / 2 else b i
theorem kb_half (t : Nat) (b : Nat → Nat) (i : Nat) : kb t b i ≤ t / 2 := by unfold kb; split <;> omega
theorem kb_le (t : Nat) (b : Nat → Nat) (i : Nat) : kb t b i ≤ b i := by unfold kb; split <;> omega
theorem cbd_kb {t : Nat} {b : Nat → Nat} {i : Nat} (ht : t ≤ 1000) (hb : ∀ j, b j ≤ 999) : cbd (nI t) (nf b i) = nI (kb t b i) := by
  have h1 := hb i
  have e : nI t / (2:Int32) = nI (t / 2) := nI_div (b := 2) (by omega) (by omega)
  unfold cbd kb
  rw [e, nf_at]
  by_cases h : t / 2 < b i
  · rw [if_pos h, if_pos ((nI_lti (by omega) (by omega)).mpr h)]
  · rw [if_neg h, if_neg (fun q => h ((nI_lti (by omega) (by omega)).mp q))]
theorem cbd_f {t : Nat} {b : Nat → Nat} (ht : t ≤ 1000) (hb : ∀ j, b j ≤ 999) : (fun i => cbd (nI t) (nf b i)) = nf (kb t b) := funext fun _ => cbd_kb ht hb
theorem tkS_cong {can : Nat → Bool} {x y : Nat → Int32} {p c : Nat} (hc : 0 < c) (hc8 : c ≤ 8) (h : ∀ j, j < c → x j = y j) : ∀ k, tkS can x p c k = tkS can y p c k
  | 0 => rfl
  | k + 1 => by
    have hm : (p + k) % c < c := Nat.mod_lt _ hc
    have ih := tkS_cong (can := can) (p := p) hc hc8 h k
    have hb := tkS_is (can := can) (cb := y) (p := p) hc k
    unfold tkS
    rw [ih]
    unfold tkB
    rcases hb with e | ⟨j, hj, -, e⟩
    · rw [e, if_pos rfl, if_pos rfl]
    · rw [e, nI_clamp (by omega), h _ hm, h j hj]
theorem tkS_some {can : Nat → Bool} {x : Nat → Int32} {p c : Nat} (hc : 0 < c) (hc8 : c ≤ 8) : ∀ k l, l < k → can ((p + l) % c) = true → ∃ w, w < c ∧ can w = true ∧ tkS can x p c k = nI w ∧ x ((p + l) % c) ≤ x w
  | 0, l, h, _ => by omega
  | k + 1, l, h, hl => by
    have hm : (p + k) % c < c := Nat.mod_lt _ hc
    by_cases e : l = k
    · subst e
      unfold tkS tkB
      rw [if_pos hl]
      rcases tkS_is (can := can) (cb := x) (p := p) hc l with e | ⟨j, hj, hcj, e⟩
      · rw [e, if_pos rfl]
        exact ⟨_, hm, hl, rfl, Int32.le_refl _⟩
      · rw [e, if_neg (fun q => (nI_neg (by omega)).mp q), nI_clamp (by omega)]
        by_cases q : x ((p + l) % c) ≤ x j
        · rw [if_pos q]; exact ⟨j, hj, hcj, rfl, q⟩
        · rw [if_neg q]; exact ⟨_, hm, hl, rfl, Int32.le_refl _⟩
    · obtain ⟨w, h1, h2, h3, h4⟩ := tkS_some (can := can) (x := x) (p := p) hc hc8 k l (by omega) hl
      unfold tkS tkB
      rw [h3, nI_clamp (by omega)]
      by_cases q : can ((p + k) % c) = true
      · rw [if_pos q, if_neg (fun q => (nI_neg (by omega)).mp q)]
        by_cases q2 : x ((p + k) % c) ≤ x w
        · rw [if_pos q2]; exact ⟨w, h1, h2, rfl, h4⟩
        · rw [if_neg q2]
          refine ⟨_, hm, q, rfl, Int32.le_trans h4 (Int32.le_of_lt (Int32.not_le.mp q2))⟩
      · rw [if_neg q]; exact ⟨w, h1, h2, rfl, h4⟩
theorem turn_of {p c j : Nat} (hj : j < c) : ∃ l, l < c ∧ (p + l) % c = j := by
  have hp : p % c < c := Nat.mod_lt _ (by omega)
  have e : ∀ l, (p + l) % c = (p % c + l) % c := fun l => by rw [Nat.add_mod, Nat.add_mod (p % c) l c, Nat.mod_mod]
  by_cases h : p % c ≤ j
  · exact ⟨j - p % c, by omega, by rw [e, show p % c + (j - p % c) = j by omega, Nat.mod_eq_of_lt hj]⟩
  · exact ⟨j + c - p % c, by omega, by rw [e, show p % c + (j + c - p % c) = j + c by omega, Nat.add_mod_right, Nat.mod_eq_of_lt hj]⟩
/-- whoever takes it bids most -/
theorem tk_max {can : Nat → Bool} {x : Nat → Int32} {p c w j : Nat} (hc8 : c ≤ 8) (h : tkS can x p c c = nI w) (hw : w < 2147483648) (hj : j < c) (hcj : can j = true) : w < c ∧ x j ≤ x w := by
  obtain ⟨l, hl, e⟩ := turn_of (p := p) hj
  obtain ⟨w2, h1, h2, h3, h4⟩ := tkS_some (can := can) (x := x) (p := p) (by omega) hc8 c l hl (by rw [e]; exact hcj)
  have : w = w2 := (nI_inj hw (by omega)).mp (h.symm.trans h3)
  subst this
  rw [e] at h4
  exact ⟨h1, h4⟩
/-- who bids more than all others takes it -/
theorem tk_win {can : Nat → Bool} {x : Nat → Int32} {p c i : Nat} (hc8 : c ≤ 8) (hi : i < c) (hci : can i = true) (h : ∀ j, j < c → j ≠ i → can j = true → x j < x i) : tkS can x p c c = nI i := by
  obtain ⟨l, hl, e⟩ := turn_of (p := p) hi
  obtain ⟨w, h1, h2, h3, h4⟩ := tkS_some (can := can) (x := x) (p := p) (by omega) hc8 c l hl (by rw [e]; exact hci)
  rw [e] at h4
  by_cases q : w = i
  · rw [h3, q]
  · exact absurd h4 (Int32.not_le.mpr (h w h1 q h2))
theorem othN_s (ins mg : Nat → Int32) (w k : Nat) : othN ins mg w (k + 1) = othN ins mg w k + (if oth ins mg w k = true then 1 else 0) := (fun (_ : True) => rfl) trivial
section SHARE
variable {c m q B g : Nat} {P : Nat → Nat} {gu : Nat → Int32} {b : Nat → Nat} {aw ta ins : Nat → Int32} {F O G H S D : Nat → Nat}
variable {pd mg : Nat → Int32} {t : Nat}
theorem others {w : Nat} (hc : c ≤ 8) (hi : Bo ins) (hm : ∀ j, j < c → (mg j = 0 ∨ mg j = 1)) (hw : w < c) : One (lp (b_X1_share_5 (pd, mg, nI t) (nI c, nI m, nI q, nI B, nI g, nf P, gu, nf b, aw, ta, ins, nf F, nf O, nf G, nf H, nf S, nf D) (nI w)) FU (nI 0, nI 0)) (fun e => e = (nI (othN ins mg w c), nI c)) := by
  refine lp_one (fun n s => ∃ k, s = (nI (othN ins mg w k), nI k) ∧ k ≤ c ∧ n = c - k) _ ?_ (n := c) ⟨0, rfl, by omega, by omega⟩ (FU_gt (by omega))
  rintro n s ⟨k, rfl, h1, rfl⟩ J hJ
  by_cases h : k = c
  · subst h
    simp (disch := omega) only [b_X1_share_5, St_count, St_month, St_contribution, St_box, St_given, St_purse, St_guarantor, St_bid, St_away, St_taken, St_inside, St_paidForItself, St_paidForOthers, St_gotOfPot, St_shares, St_misses, St_debt, St_count_s, St_month_s, St_contribution_s, St_box_s, St_given_s, St_purse_s, St_guarantor_s, St_bid_s, St_away_s, St_taken_s, St_inside_s, St_paidForItself_s, St_paidForOthers_s, St_gotOfPot_s, St_shares_s, St_misses_s, St_debt_s, Rd_paid, Rd_missing, Rd_pence, Rd_paid_s, Rd_missing_s, Rd_pence_s, mul8, lt_e, bd_s, gi_ok, gz2, q_add, nI_s1, nI_clamp, upd_same, nar0, nar1, c0, nf_at, nf_un, nI_lei, Nat.le_refl, ↓reduceIte]
    rfl
  · have hk : k < c := by omega
    have nk : ¬ c ≤ k := by omega
    have next : J (nI (othN ins mg w k + (if oth ins mg w k = true then 1 else 0)), nI (k + 1)) := hJ _ _ (by omega) ⟨k + 1, rfl, by omega, rfl⟩
    have hle := othN_le (ins := ins) (mg := mg) (w := w) k
    by_cases hkw : k = w
    · subst hkw
      rw [oth_eq] at next
      simp (disch := omega) only [b_X1_share_5, St_count, St_month, St_contribution, St_box, St_given, St_purse, St_guarantor, St_bid, St_away, St_taken, St_inside, St_paidForItself, St_paidForOthers, St_gotOfPot, St_shares, St_misses, St_debt, St_count_s, St_month_s, St_contribution_s, St_box_s, St_given_s, St_purse_s, St_guarantor_s, St_bid_s, St_away_s, St_taken_s, St_inside_s, St_paidForItself_s, St_paidForOthers_s, St_gotOfPot_s, St_shares_s, St_misses_s, St_debt_s, Rd_paid, Rd_missing, Rd_pence, Rd_paid_s, Rd_missing_s, Rd_pence_s, mul8, lt_e, bd_s, gi_ok, gz2, q_add, nI_s1, nI_clamp, upd_same, nar0, nar1, c0, nf_at, nf_un, nI_lei, nk, ↓reduceIte]
      exact next
    · rcases hi k with e1 | e1
      · rw [oth_no (Or.inl e1)] at next
        simp (disch := omega) only [b_X1_share_5, part_x hk hc, St_count, St_month, St_contribution, St_box, St_given, St_purse, St_guarantor, St_bid, St_away, St_taken, St_inside, St_paidForItself, St_paidForOthers, St_gotOfPot, St_shares, St_misses, St_debt, St_count_s, St_month_s, St_contribution_s, St_box_s, St_given_s, St_purse_s, St_guarantor_s, St_bid_s, St_away_s, St_taken_s, St_inside_s, St_paidForItself_s, St_paidForOthers_s, St_gotOfPot_s, St_shares_s, St_misses_s, St_debt_s, Rd_paid, Rd_missing, Rd_pence, Rd_paid_s, Rd_missing_s, Rd_pence_s, mul8, lt_e, bd_s, gi_ok, gz2, q_add, nI_s1, nI_clamp, upd_same, nar0, nar1, c0, nf_at, nf_un, nI_lei, nI_inj, hkw, nk, e1, ↓reduceIte]
        exact next
      · rcases hm k hk with e2 | e2
        · rw [oth_yes hkw e1 e2] at next
          simp (disch := omega) only [b_X1_share_5, part_x hk hc, St_count, St_month, St_contribution, St_box, St_given, St_purse, St_guarantor, St_bid, St_away, St_taken, St_inside, St_paidForItself, St_paidForOthers, St_gotOfPot, St_shares, St_misses, St_debt, St_count_s, St_month_s, St_contribution_s, St_box_s, St_given_s, St_purse_s, St_guarantor_s, St_bid_s, St_away_s, St_taken_s, St_inside_s, St_paidForItself_s, St_paidForOthers_s, St_gotOfPot_s, St_shares_s, St_misses_s, St_debt_s, Rd_paid, Rd_missing, Rd_pence, Rd_paid_s, Rd_missing_s, Rd_pence_s, mul8, lt_e, bd_s, gi_ok, gz2, q_add, nI_s1, nI_clamp, upd_same, nar0, nar1, c0, nf_at, nf_un, nI_lei, nI_inj, hkw, nk, e1, e2, z_ne, o_ne, ↓reduceIte]
          exact next
        · rw [oth_no (Or.inr e2)] at next
          simp (disch := omega) only [b_X1_share_5, part_x hk hc, St_count, St_month, St_contribution, St_box, St_given, St_purse, St_guarantor, St_bid, St_away, St_taken, St_inside, St_paidForItself, St_paidForOthers, St_gotOfPot, St_shares, St_misses, St_debt, St_count_s, St_month_s, St_contribution_s, St_box_s, St_given_s, St_purse_s, St_guarantor_s, St_bid_s, St_away_s, St_taken_s, St_inside_s, St_paidForItself_s, St_paidForOthers_s, St_gotOfPot_s, St_shares_s, St_misses_s, St_debt_s, Rd_paid, Rd_missing, Rd_pence, Rd_paid_s, Rd_missing_s, Rd_pence_s, mul8, lt_e, bd_s, gi_ok, gz2, q_add, nI_s1, nI_clamp, upd_same, nar0, nar1, c0, nf_at, nf_un, nI_lei, nI_inj, hkw, nk, e1, e2, z_ne, o_ne, ↓reduceIte]
          exact next
theorem shares {w y : Nat} (hc : c ≤ 8) (hi : Bo ins) (hm : ∀ j, j < c → (mg j = 0 ∨ mg j = 1)) (hw : w < c) {o1 o2 : Int32} : One (lp (b_X1_share_64 (pd, mg, nI t) (nI w) o1 o2 (nI y)) FU (nI 0, (nI c, nI m, nI q, nI B, nI g, nf P, gu, nf b, aw, ta, ins, nf F, nf O, nf G, nf H, nf S, nf D))) (fun e => ∃ P' H', e = (nI c, (nI c, nI m, nI q, nI B, nI g, nf P', gu, nf b, aw, ta, ins, nf F, nf O, nf G, nf H', nf S, nf D)) ∧ su c P' = su c P + y * othN ins mg w c ∧ (∀ j, c ≤ j → P' j = P j ∧ H' j = H j)) := by
  refine lp_one (fun n s => ∃ k P' H', s = (nI k, (nI c, nI m, nI q, nI B, nI g, nf P', gu, nf b, aw, ta, ins, nf F, nf O, nf G, nf H', nf S, nf D)) ∧ k ≤ c ∧ n = c - k ∧ su c P' = su c P + y * othN ins mg w k ∧ (∀ j, c ≤ j → P' j = P j ∧ H' j = H j)) _ ?_ (n := c) ⟨0, P, H, rfl, by omega, by omega, rfl, fun j _ => ⟨rfl, rfl⟩⟩ (FU_gt (by omega))
  rintro n s ⟨k, P', H', rfl, h1, rfl, h2, h3⟩ J hJ
  by_cases h : k = c
  · subst h
    simp (disch := omega) only [b_X1_share_64, St_count, St_month, St_contribution, St_box, St_given, St_purse, St_guarantor, St_bid, St_away, St_taken, St_inside, St_paidForItself, St_paidForOthers, St_gotOfPot, St_shares, St_misses, St_debt, St_count_s, St_month_s, St_contribution_s, St_box_s, St_given_s, St_purse_s, St_guarantor_s, St_bid_s, St_away_s, St_taken_s, St_inside_s, St_paidForItself_s, St_paidForOthers_s, St_gotOfPot_s, St_shares_s, St_misses_s, St_debt_s, Rd_paid, Rd_missing, Rd_pence, Rd_paid_s, Rd_missing_s, Rd_pence_s, mul8, lt_e, bd_s, gi_ok, gz2, q_add, nI_s1, nI_clamp, upd_same, nar0, nar1, c0, nf_at, nf_un, nI_lei, Nat.le_refl, ↓reduceIte]
    exact ⟨P', H', rfl, h2, h3⟩
  · have hk : k < c := by omega
    have nk : ¬ c ≤ k := by omega
    have skip : oth ins mg w k = false → J (nI (k + 1), (nI c, nI m, nI q, nI B, nI g, nf P', gu, nf b, aw, ta, ins, nf F, nf O, nf G, nf H', nf S, nf D)) := fun q => hJ _ _ (by omega) ⟨k + 1, _, _, rfl, by omega, rfl, by rw [h2, othN_s, q]; rfl, h3⟩
    by_cases hkw : k = w
    · subst hkw
      simp (disch := omega) only [b_X1_share_64, St_count, St_month, St_contribution, St_box, St_given, St_purse, St_guarantor, St_bid, St_away, St_taken, St_inside, St_paidForItself, St_paidForOthers, St_gotOfPot, St_shares, St_misses, St_debt, St_count_s, St_month_s, St_contribution_s, St_box_s, St_given_s, St_purse_s, St_guarantor_s, St_bid_s, St_away_s, St_taken_s, St_inside_s, St_paidForItself_s, St_paidForOthers_s, St_gotOfPot_s, St_shares_s, St_misses_s, St_debt_s, Rd_paid, Rd_missing, Rd_pence, Rd_paid_s, Rd_missing_s, Rd_pence_s, mul8, lt_e, bd_s, gi_ok, gz2, q_add, nI_s1, nI_clamp, upd_same, nar0, nar1, c0, nf_at, nf_un, nI_lei, nk, ↓reduceIte]
      exact skip oth_eq
    · rcases hi k with e1 | e1
      · simp (disch := omega) only [b_X1_share_64, part_x hk hc, St_count, St_month, St_contribution, St_box, St_given, St_purse, St_guarantor, St_bid, St_away, St_taken, St_inside, St_paidForItself, St_paidForOthers, St_gotOfPot, St_shares, St_misses, St_debt, St_count_s, St_month_s, St_contribution_s, St_box_s, St_given_s, St_purse_s, St_guarantor_s, St_bid_s, St_away_s, St_taken_s, St_inside_s, St_paidForItself_s, St_paidForOthers_s, St_gotOfPot_s, St_shares_s, St_misses_s, St_debt_s, Rd_paid, Rd_missing, Rd_pence, Rd_paid_s, Rd_missing_s, Rd_pence_s, mul8, lt_e, bd_s, gi_ok, gz2, q_add, nI_s1, nI_clamp, upd_same, nar0, nar1, c0, nf_at, nf_un, nI_lei, nI_inj, hkw, nk, e1, ↓reduceIte]
        exact skip (oth_no (Or.inl e1))
      · rcases hm k hk with e2 | e2
        · simp (disch := omega) only [b_X1_share_64, part_x hk hc, St_count, St_month, St_contribution, St_box, St_given, St_purse, St_guarantor, St_bid, St_away, St_taken, St_inside, St_paidForItself, St_paidForOthers, St_gotOfPot, St_shares, St_misses, St_debt, St_count_s, St_month_s, St_contribution_s, St_box_s, St_given_s, St_purse_s, St_guarantor_s, St_bid_s, St_away_s, St_taken_s, St_inside_s, St_paidForItself_s, St_paidForOthers_s, St_gotOfPot_s, St_shares_s, St_misses_s, St_debt_s, Rd_paid, Rd_missing, Rd_pence, Rd_paid_s, Rd_missing_s, Rd_pence_s, mul8, lt_e, bd_s, gi_ok, gz2, q_add, nI_s1, nI_clamp, upd_same, nar0, nar1, c0, nf_at, nf_un, nI_lei, nI_inj, hkw, nk, e1, e2, z_ne, o_ne, ↓reduceIte]
          refine hJ _ _ (by omega) ⟨k + 1, _, _, rfl, by omega, rfl, ?_, fun j hj => ⟨by rw [un_ne (by omega)]; exact (h3 j hj).1, by rw [un_ne (by omega)]; exact (h3 j hj).2⟩⟩
          have s1 := su_un (x := P' k + y) (f := P') hk
          have s2 : othN ins mg w (k + 1) = othN ins mg w k + 1 := by rw [othN_s, oth_yes hkw e1 e2]; rfl
          rw [s2, Nat.mul_succ]
          omega
        · simp (disch := omega) only [b_X1_share_64, part_x hk hc, St_count, St_month, St_contribution, St_box, St_given, St_purse, St_guarantor, St_bid, St_away, St_taken, St_inside, St_paidForItself, St_paidForOthers, St_gotOfPot, St_shares, St_misses, St_debt, St_count_s, St_month_s, St_contribution_s, St_box_s, St_given_s, St_purse_s, St_guarantor_s, St_bid_s, St_away_s, St_taken_s, St_inside_s, St_paidForItself_s, St_paidForOthers_s, St_gotOfPot_s, St_shares_s, St_misses_s, St_debt_s, Rd_paid, Rd_missing, Rd_pence, Rd_paid_s, Rd_missing_s, Rd_pence_s, mul8, lt_e, bd_s, gi_ok, gz2, q_add, nI_s1, nI_clamp, upd_same, nar0, nar1, c0, nf_at, nf_un, nI_lei, nI_inj, hkw, nk, e1, e2, z_ne, o_ne, ↓reduceIte]
          exact skip (oth_no (Or.inr e2))
theorem share {w : Nat} (hc : c ≤ 8) (hi : Bo ins) (hm : ∀ j, j < c → (mg j = 0 ∨ mg j = 1)) (hw : w < c) (ht : t ≤ 1000) (hb : ∀ j, b j ≤ 999) : ∃ P' H' B', f_X1_share (pd, mg, nI t) (nI c, nI m, nI q, nI B, nI g, nf P, gu, nf b, aw, ta, ins, nf F, nf O, nf G, nf H, nf S, nf D) (nI w) = some ((), (nI c, nI m, nI q, nI B', nI g, nf P', gu, nf b, aw, ta, ins, nf F, nf O, nf G, nf H', nf S, nf D)) ∧ B' + su c P' = B + su c P + kb t b w ∧ (∀ j, c ≤ j → P' j = P j ∧ H' j = H j) := by
  obtain ⟨e, a1, rfl⟩ := on_get (others (pd := pd) (t := t) (m := m) (q := q) (B := B) (g := g) (P := P) (gu := gu) (b := b) (aw := aw) (ta := ta) (F := F) (O := O) (G := G) (H := H) (S := S) (D := D) hc hi hm hw)
  have a1 : lp (b_X1_share_5 (pd, mg, nI t) (nI c, nI m, nI q, nI B, nI g, nf P, gu, nf b, aw, ta, ins, nf F, nf O, nf G, nf H, nf S, nf D) (nI w)) FU ((0:Int32), (0:Int32)) = _ := a1
  have hN := othN_le (ins := ins) (mg := mg) (w := w) c
  have hk := kb_half t b w
  have cb := bid_x (pd := pd) (mg := mg) (pn := nI t) (mo := nI m) (co := nI q) (bo := nI B) (gv := nI g) (pu := nf P) (gu := gu) (bi := nf b) (aw := aw) (ta := ta) (ins := ins) (pf := nf F) (po := nf O) (go := nf G) (sh := nf H) (ms := nf S) (de := nf D) hw hc
  rw [cbd_kb ht hb] at cb
  obtain ⟨N, eN⟩ : ∃ N, othN ins mg w c = N := ⟨_, rfl⟩
  rw [eN] at a1 hN
  by_cases h0 : N = 0
  · subst h0
    obtain ⟨e, a2, P', H', rfl, b1, b2⟩ := on_get (shares (pd := pd) (mg := mg) (t := t) (w := w) (y := 0) (o1 := nI 0) (o2 := nI (kb t b w)) (m := m) (q := q) (B := B) (g := g) (P := P) (gu := gu) (b := b) (aw := aw) (ta := ta) (F := F) (O := O) (G := G) (H := H) (S := S) (D := D) hc hi hm hw)
    have a2 : lp (b_X1_share_64 (pd, mg, nI t) (nI w) (nI 0) (nI (kb t b w)) (0:Int32)) FU ((0:Int32), (nI c, nI m, nI q, nI B, nI g, nf P, gu, nf b, aw, ta, ins, nf F, nf O, nf G, nf H, nf S, nf D)) = _ := a2
    refine ⟨P', H', B + kb t b w, ?_, by omega, b2⟩
    have z : nI B + (nI (kb t b w) - (0:Int32) * nI 0) = nI (B + kb t b w) := by rw [Int32.zero_mul, Int32.sub_zero, q_add]
    simp (disch := omega) only [f_X1_share, a1, a2, cb, bd_s, St_count, St_month, St_contribution, St_box, St_given, St_purse, St_guarantor, St_bid, St_away, St_taken, St_inside, St_paidForItself, St_paidForOthers, St_gotOfPot, St_shares, St_misses, St_debt, St_count_s, St_month_s, St_contribution_s, St_box_s, St_given_s, St_purse_s, St_guarantor_s, St_bid_s, St_away_s, St_taken_s, St_inside_s, St_paidForItself_s, St_paidForOthers_s, St_gotOfPot_s, St_shares_s, St_misses_s, St_debt_s, Rd_paid, Rd_missing, Rd_pence, Rd_paid_s, Rd_missing_s, Rd_pence_s, lt_e, ge0, Nat.le_refl, z, ↓reduceIte]
  · have n0 : ¬ N ≤ 0 := by omega
    have nz : ¬ nI N = 0 := fun q => h0 ((nI_inj (b := 0) (by omega) (by omega)).mp q)
    obtain ⟨e, a2, P', H', rfl, b1, b2⟩ := on_get (shares (pd := pd) (mg := mg) (t := t) (w := w) (y := kb t b w / N) (o1 := nI N) (o2 := nI (kb t b w)) (m := m) (q := q) (B := B) (g := g) (P := P) (gu := gu) (b := b) (aw := aw) (ta := ta) (F := F) (O := O) (G := G) (H := H) (S := S) (D := D) hc hi hm hw)
    have a2 : lp (b_X1_share_64 (pd, mg, nI t) (nI w) (nI N) (nI (kb t b w)) (nI (kb t b w / N))) FU ((0:Int32), (nI c, nI m, nI q, nI B, nI g, nf P, gu, nf b, aw, ta, ins, nf F, nf O, nf G, nf H, nf S, nf D)) = _ := a2
    have dv : kb t b w / N * N ≤ kb t b w := Nat.div_mul_le_self _ _
    rw [eN] at b1
    refine ⟨P', H', B + (kb t b w - kb t b w / N * N), ?_, by omega, b2⟩
    have z : nI B + (nI (kb t b w) - nI (kb t b w / N) * nI N) = nI (B + (kb t b w - kb t b w / N * N)) := by rw [q_mul, nI_sub dv, q_add]
    simp (disch := omega) only [f_X1_share, a1, a2, cb, bd_s, St_count, St_month, St_contribution, St_box, St_given, St_purse, St_guarantor, St_bid, St_away, St_taken, St_inside, St_paidForItself, St_paidForOthers, St_gotOfPot, St_shares, St_misses, St_debt, St_count_s, St_month_s, St_contribution_s, St_box_s, St_given_s, St_purse_s, St_guarantor_s, St_bid_s, St_away_s, St_taken_s, St_inside_s, St_paidForItself_s, St_paidForOthers_s, St_gotOfPot_s, St_shares_s, St_misses_s, St_debt_s, Rd_paid, Rd_missing, Rd_pence, Rd_paid_s, Rd_missing_s, Rd_pence_s, lt_e, ge0, n0, nz, gz, nI_div, z, ↓reduceIte]
end SHARE
end
section
/-! a month: the pot is paid out; the month as a whole -/
section OUT
variable {c m q B g : Nat} {P : Nat → Nat} {gu : Nat → Int32} {b : Nat → Nat} {aw ta ins : Nat → Int32} {F O G H S D : Nat → Nat}
variable {pd mg : Nat → Int32} {t : Nat}
theorem settle_w {w j r : Nat} (hw : w < 8) (hj : j < 8) (hr : r ≤ 20000) (hD : ∀ k, D k ≤ 20000) : ∃ x, x ≤ r ∧ x ≤ D (w * 8 + j) ∧ x = (if r < D (w * 8 + j) then r else D (w * 8 + j)) ∧ f_X3_settle (nI c, nI m, nI q, nI B, nI g, nf P, gu, nf b, aw, ta, ins, nf F, nf O, nf G, nf H, nf S, nf D) (nI w) (nI j) (nI r) = some (nI x, (nI c, nI m, nI q, nI B, nI g, nf (un P j (P j + x)), gu, nf b, aw, ta, ins, nf F, nf O, nf G, nf H, nf S, nf (un D (w * 8 + j) (D (w * 8 + j) - x)))) := by
  have h1 := hD (w * 8 + j)
  have e := settle_x (c := c) (mo := nI m) (co := nI q) (bo := nI B) (gv := nI g) (pu := nf P) (gu := gu) (bi := nf b) (aw := aw) (ta := ta) (ins := ins) (pf := nf F) (po := nf O) (go := nf G) (sh := nf H) (ms := nf S) (de := nf D) hw hj (r := nI r)
  rw [e]
  by_cases q : r < D (w * 8 + j)
  · have q' : nI r < nI (D (w * 8 + j)) := (nI_lti (by omega) (by omega)).mpr q
    refine ⟨r, Nat.le_refl _, by omega, by rw [if_pos q], ?_⟩
    simp (disch := omega) only [nf_at, if_pos q', q_add, nI_sub, nf_un]
  · have q' : ¬ nI r < nI (D (w * 8 + j)) := fun z => q ((nI_lti (by omega) (by omega)).mp z)
    refine ⟨D (w * 8 + j), by omega, Nat.le_refl _, by rw [if_neg q], ?_⟩
    simp (disch := omega) only [nf_at, if_neg q', q_add, nI_sub, nf_un]
theorem rest {w r : Nat} (hc : c ≤ 8) (hw : w < c) (hr : r ≤ 20000) (hD : ∀ k, D k ≤ 20000) (hd : Db c D) : One (lp (b_X1_payOut_29 (pd, mg, nI t) (nI w)) FU (nI r, nI 0, (nI c, nI m, nI q, nI B, nI g, nf P, gu, nf b, aw, ta, ins, nf F, nf O, nf G, nf H, nf S, nf D))) (fun e => ∃ r' P' D', e = (nI r', nI c, (nI c, nI m, nI q, nI B, nI g, nf P', gu, nf b, aw, ta, ins, nf F, nf O, nf G, nf H, nf S, nf D')) ∧ su c P' + r' = su c P + r ∧ (∀ k, D' k ≤ D k) ∧ (∀ j, c ≤ j → P' j = P j)) := by
  refine lp_one (fun n s => ∃ k r' P' D', s = (nI r', nI k, (nI c, nI m, nI q, nI B, nI g, nf P', gu, nf b, aw, ta, ins, nf F, nf O, nf G, nf H, nf S, nf D')) ∧ k ≤ c ∧ n = c - k ∧ su c P' + r' = su c P + r ∧ r' ≤ r ∧ (∀ k, D' k ≤ D k) ∧ (∀ j, c ≤ j → P' j = P j)) _ ?_ (n := c) ⟨0, r, P, D, rfl, by omega, by omega, rfl, Nat.le_refl _, fun k => Nat.le_refl _, fun j _ => rfl⟩ (FU_gt (by omega))
  rintro n s ⟨k, r', P', D', rfl, h1, rfl, h2, h3, h4, h5⟩ J hJ
  by_cases h : k = c
  · subst h
    simp (disch := omega) only [b_X1_payOut_29, St_count, St_month, St_contribution, St_box, St_given, St_purse, St_guarantor, St_bid, St_away, St_taken, St_inside, St_paidForItself, St_paidForOthers, St_gotOfPot, St_shares, St_misses, St_debt, St_count_s, St_month_s, St_contribution_s, St_box_s, St_given_s, St_purse_s, St_guarantor_s, St_bid_s, St_away_s, St_taken_s, St_inside_s, St_paidForItself_s, St_paidForOthers_s, St_gotOfPot_s, St_shares_s, St_misses_s, St_debt_s, Rd_paid, Rd_missing, Rd_pence, Rd_paid_s, Rd_missing_s, Rd_pence_s, mul8, lt_e, bd_s, gi_ok, gz2, q_add, nI_s1, nI_clamp, upd_same, nar0, nar1, c0, nf_at, nf_un, nI_lei, Nat.le_refl, ↓reduceIte]
    exact ⟨r', P', D', rfl, h2, h4, h5⟩
  · have hk : k < c := by omega
    have nk : ¬ c ≤ k := by omega
    obtain ⟨x, x1, x2, -, e⟩ := settle_w (c := c) (m := m) (q := q) (B := B) (g := g) (P := P') (gu := gu) (b := b) (aw := aw) (ta := ta) (ins := ins) (F := F) (O := O) (G := G) (H := H) (S := S) (D := D') (w := w) (j := k) (r := r') (by omega) (by omega) (by omega) (fun j => Nat.le_trans (h4 j) (hD j))
    have s1 := su_un (x := P' k + x) (f := P') hk
    simp (disch := omega) only [b_X1_payOut_29, St_count, St_month, St_contribution, St_box, St_given, St_purse, St_guarantor, St_bid, St_away, St_taken, St_inside, St_paidForItself, St_paidForOthers, St_gotOfPot, St_shares, St_misses, St_debt, St_count_s, St_month_s, St_contribution_s, St_box_s, St_given_s, St_purse_s, St_guarantor_s, St_bid_s, St_away_s, St_taken_s, St_inside_s, St_paidForItself_s, St_paidForOthers_s, St_gotOfPot_s, St_shares_s, St_misses_s, St_debt_s, Rd_paid, Rd_missing, Rd_pence, Rd_paid_s, Rd_missing_s, Rd_pence_s, mul8, lt_e, bd_s, gi_ok, gz2, q_add, nI_s1, nI_clamp, upd_same, nar0, nar1, c0, nf_at, nf_un, e, nI_sub, nI_lei, nk, ↓reduceIte]
    exact hJ _ _ (by omega) ⟨k + 1, _, _, _, rfl, by omega, rfl, by omega, by omega, un_le h4 (Nat.le_trans (Nat.sub_le _ _) (h4 _)), fun j hj => by rw [un_ne (by omega)]; exact h5 j hj⟩
theorem payOut {w : Nat} (hc : c ≤ 8) (hw : w < c) (ht : t ≤ 1000) (hb : ∀ j, b j ≤ 999) (hD : ∀ k, D k ≤ 20000) (hd : Db c D) : ∃ P' D', f_X1_payOut (pd, mg, nI t) (nI c, nI m, nI q, nI B, nI g, nf P, gu, nf b, aw, ta, ins, nf F, nf O, nf G, nf H, nf S, nf D) (nI w) = some ((), (nI c, nI m, nI q, nI B, nI g, nf P', gu, nf b, aw, upd ta w 1, ins, nf F, nf O, nf (un G w (t - kb t b w)), nf H, nf S, nf D')) ∧ su c P' = su c P + (t - kb t b w) ∧ (∀ k, D' k ≤ D k) ∧ (∀ j, c ≤ j → P' j = P j) := by
  have hk := kb_half t b w
  have cb := bid_x (pd := pd) (mg := mg) (pn := nI t) (mo := nI m) (co := nI q) (bo := nI B) (gv := nI g) (pu := nf P) (gu := gu) (bi := nf b) (aw := aw) (ta := ta) (ins := ins) (pf := nf F) (po := nf O) (go := nf G) (sh := nf H) (ms := nf S) (de := nf D) hw hc
  rw [cbd_kb ht hb] at cb
  obtain ⟨e, a1, r', P', D', rfl, h1, h2, h3⟩ := on_get (rest (pd := pd) (mg := mg) (t := t) (r := t - kb t b w) (m := m) (q := q) (B := B) (g := g) (P := P) (gu := gu) (b := b) (aw := aw) (ins := ins) (ta := upd ta w 1) (F := F) (O := O) (G := un G w (t - kb t b w)) (H := H) (S := S) (D := D) hc hw (by omega) hD hd)
  have a1 : lp (b_X1_payOut_29 (pd, mg, nI t) (nI w)) FU (nI (t - kb t b w), (0:Int32), (nI c, nI m, nI q, nI B, nI g, nf P, gu, nf b, aw, upd ta w 1, ins, nf F, nf O, nf (un G w (t - kb t b w)), nf H, nf S, nf D)) = _ := a1
  have s1 := su_un (x := P' w + r') (f := P') hw
  refine ⟨un P' w (P' w + r'), D', ?_, by omega, h2, fun j hj => by rw [un_ne (by omega)]; exact h3 j hj⟩
  simp (disch := omega) only [f_X1_payOut, cb, bd_s, St_count, St_month, St_contribution, St_box, St_given, St_purse, St_guarantor, St_bid, St_away, St_taken, St_inside, St_paidForItself, St_paidForOthers, St_gotOfPot, St_shares, St_misses, St_debt, St_count_s, St_month_s, St_contribution_s, St_box_s, St_given_s, St_purse_s, St_guarantor_s, St_bid_s, St_away_s, St_taken_s, St_inside_s, St_paidForItself_s, St_paidForOthers_s, St_gotOfPot_s, St_shares_s, St_misses_s, St_debt_s, Rd_paid, Rd_missing, Rd_pence, Rd_paid_s, Rd_missing_s, Rd_pence_s, mul8, lt_e, bd_s, gi_ok, gz2, q_add, nI_s1, nI_clamp, upd_same, nar0, nar1, c0, nf_at, nf_un, nI_sub, a1]
theorem endM {w : Int32} (hc : c ≤ 8) (zb : Zn c b) (za : Zi c aw) {v0 : RdV} : One (lp (b_X1_pass_47 v0 w) FU (nI 0, (nI c, nI m, nI q, nI B, nI g, nf P, gu, nf b, aw, ta, ins, nf F, nf O, nf G, nf H, nf S, nf D))) (fun e => e = (nI c, (nI c, nI m, nI q, nI B, nI g, nf P, gu, nf (fun _ => 0), fun _ => 0, ta, ins, nf F, nf O, nf G, nf H, nf S, nf D))) := by
  refine lp_one (fun n s => ∃ k b' aw', s = (nI k, (nI c, nI m, nI q, nI B, nI g, nf P, gu, nf b', aw', ta, ins, nf F, nf O, nf G, nf H, nf S, nf D)) ∧ k ≤ c ∧ n = c - k ∧ (∀ j, j < k → b' j = 0 ∧ aw' j = 0) ∧ (∀ j, c ≤ j → b' j = 0 ∧ aw' j = 0)) _ ?_ (n := c) ⟨0, b, aw, rfl, by omega, by omega, fun j h => by omega, fun j hj => ⟨zb j hj, za j hj⟩⟩ (FU_gt (by omega))
  rintro n s ⟨k, b', aw', rfl, h1, rfl, h2, h3⟩ J hJ
  by_cases h : k = c
  · subst h
    simp (disch := omega) only [b_X1_pass_47, St_count, St_month, St_contribution, St_box, St_given, St_purse, St_guarantor, St_bid, St_away, St_taken, St_inside, St_paidForItself, St_paidForOthers, St_gotOfPot, St_shares, St_misses, St_debt, St_count_s, St_month_s, St_contribution_s, St_box_s, St_given_s, St_purse_s, St_guarantor_s, St_bid_s, St_away_s, St_taken_s, St_inside_s, St_paidForItself_s, St_paidForOthers_s, St_gotOfPot_s, St_shares_s, St_misses_s, St_debt_s, Rd_paid, Rd_missing, Rd_pence, Rd_paid_s, Rd_missing_s, Rd_pence_s, mul8, lt_e, bd_s, gi_ok, gz2, q_add, nI_s1, nI_clamp, upd_same, nar0, nar1, c0, nf_at, nf_un, nI_lei, Nat.le_refl, ↓reduceIte]
    have e1 : b' = fun _ => 0 := funext fun j => by
      by_cases hj : j < k
      · exact (h2 j hj).1
      · exact (h3 j (by omega)).1
    have e2 : aw' = fun _ => 0 := funext fun j => by
      by_cases hj : j < k
      · exact (h2 j hj).2
      · exact (h3 j (by omega)).2
    rw [e1, e2]
    rfl
  · have hk : k < c := by omega
    have nk : ¬ c ≤ k := by omega
    have z : (0:Int32) = nI 0 := rfl
    have next : J (nI (k + 1), (nI c, nI m, nI q, nI B, nI g, nf P, gu, nf (un b' k 0), upd aw' k 0, ta, ins, nf F, nf O, nf G, nf H, nf S, nf D)) := hJ _ _ (by omega) ⟨k + 1, _, _, rfl, by omega, rfl, fun j hj => by
      by_cases e : j = k
      · subst e; rw [un_same, upd_same]; exact ⟨rfl, rfl⟩
      · rw [un_ne e, upd_ne e]; exact h2 j (by omega), fun j hj => by rw [un_ne (by omega), upd_ne (by omega)]; exact h3 j hj⟩
    have u : upd (nf b') k (0:Int32) = nf (un b' k 0) := nf_un b' k 0
    simp (disch := omega) only [b_X1_pass_47, St_count, St_month, St_contribution, St_box, St_given, St_purse, St_guarantor, St_bid, St_away, St_taken, St_inside, St_paidForItself, St_paidForOthers, St_gotOfPot, St_shares, St_misses, St_debt, St_count_s, St_month_s, St_contribution_s, St_box_s, St_given_s, St_purse_s, St_guarantor_s, St_bid_s, St_away_s, St_taken_s, St_inside_s, St_paidForItself_s, St_paidForOthers_s, St_gotOfPot_s, St_shares_s, St_misses_s, St_debt_s, Rd_paid, Rd_missing, Rd_pence, Rd_paid_s, Rd_missing_s, Rd_pence_s, lt_e, gi_ok, nI_s1, nI_clamp, nar0, u, nI_lei, nk, ↓reduceIte]
    exact next
end OUT
end
section
/-! good states; a month from one to the next -/
def OkW (c m q B g : Nat) (P : Nat → Nat) (gu : Nat → Int32) (b : Nat → Nat) (aw ta ins : Nat → Int32) (F O G H S D : Nat → Nat) : Prop :=
  (1 ≤ q ∧ q ≤ 20 ∧ c ≤ 7 ∧ m ≤ 99 ∧ g ≤ 9000) ∧ B + su c P = g ∧ Gu c gu ∧ Bo aw ∧ Bo ta ∧ Bo ins ∧ (∀ j, b j ≤ 999) ∧ (∀ j, F j ≤ 20 * m) ∧ (∀ k, D k ≤ 20 * m) ∧ Db c D ∧
  (Zn c P ∧ Zi c gu ∧ Zn c b ∧ Zi c aw ∧ Zi c ta ∧ Zi c ins ∧ Zn c F ∧ Zn c O ∧ Zn c G ∧ Zn c H ∧ Zn c S)
def Ok (c m q g : Nat) (v : StV) : Prop := ∃ (B : Nat) (P : Nat → Nat) (gu : Nat → Int32) (b : Nat → Nat) (aw ta ins : Nat → Int32) (F O G H S D : Nat → Nat), v = (nI c, nI m, nI q, nI B, nI g, nf P, gu, nf b, aw, ta, ins, nf F, nf O, nf G, nf H, nf S, nf D) ∧ OkW c m q B g P gu b aw ta ins F O G H S D
/-- the sum of a row's first ones, as the machine has it -/
def sI : Nat → (Nat → Int32) → Int32
  | 0, _ => 0
  | n + 1, f => sI n f + f n
theorem sI_nf (c : Nat) (f : Nat → Nat) : sI c (nf f) = nI (su c f) := by
  induction c with
  | zero => rfl
  | succ n ih => unfold sI su; rw [ih, nf_at, q_add]
/-- no bid of those who may bid -/
def PB (c : Nat) (v : StV) : Prop := ∀ j, j < c → St_inside v j = 1 → St_taken v j = 0 → St_bid v j = 0
/-- a round that holds nothing behind the members -/
def Rz (c : Nat) (r : RdV) : Prop := Zi c r.1 ∧ Zi c r.2.1
def Step (c m q g : Nat) (v : StV) (w : Int32) (k : Nat) (v' : StV) : Prop :=
  Ok c (m + 1) q g v' ∧ k ≤ 14 ∧ sI c (St_paidForItself v') + sI c (St_paidForOthers v') = sI c (St_paidForItself v) + sI c (St_paidForOthers v) + nI (q * k) ∧
  (∃ d, d ≤ 7 ∧ sI c (St_misses v') = sI c (St_misses v) + nI d) ∧ St_bid v' = (fun _ => 0) ∧ St_away v' = (fun _ => 0) ∧ St_guarantor v' = St_guarantor v ∧ ((∃ j, j < c ∧ St_inside v j = 1) ∨ (k = 0 ∧ w = (-99999:Int32))) ∧
  ((w = (-99999:Int32) ∧ St_box v' = St_box v + nI (q * k)) ∨ (∃ W x, W < c ∧ w = nI W ∧ St_taken v' W = 1 ∧ St_gotOfPot v' W = nI x ∧ x ≤ q * k ∧ q * k ≤ 2 * x)) ∧
  ∀ r, Rz c r → ∃ r', Rz c r' ∧ Rd_pence r' = nI (q * k) ∧ f_X1_pass r v = some (w, (r', v')) ∧ ∃ v1, f_X1_payIn r v = some ((), (r', v1))
section MONTH
variable {c m q B g : Nat} {P : Nat → Nat} {gu : Nat → Int32} {b : Nat → Nat} {aw ta ins : Nat → Int32} {F O G H S D : Nat → Nat}
variable {pd mg : Nat → Int32} {pn : Int32}
theorem OkW.P9 (h : OkW c m q B g P gu b aw ta ins F O G H S D) : ∀ j, P j ≤ 9000 := fun j => by
  obtain ⟨⟨h1, h2, h3, h4, h5⟩, h6, -, -, -, -, -, -, -, -, zP, -⟩ := h
  by_cases hj : j < c
  · have := su_ge (f := P) hj; omega
  · rw [zP j (by omega)]; omega
theorem takerW {t : Nat} (h : OkW c m q B g P gu b aw ta ins F O G H S D) (hm : ∀ j, j < c → (mg j = 0 ∨ mg j = 1)) (ht : t ≤ 1000) : f_X1_taker (pd, mg, nI t) (nI c, nI m, nI q, nI B, nI g, nf P, gu, nf b, aw, ta, ins, nf F, nf O, nf G, nf H, nf S, nf D) = some (tkS (cnT ins mg ta) (nf (kb t b)) (m % c) c c, ()) := by
  obtain ⟨⟨h1, h2, h3, h4, h5⟩, h6, h7, h8, h9, h10, h11, -⟩ := h
  rw [taker_x (by omega) h10 h9 hm rfl (by omega), cbd_f ht h11]
theorem month_go (h : OkW c m q B g P gu b aw ta ins F O G H S D) (h1 : 1 ≤ c) (hm : m ≤ 98) (zp : Zi c pd) (zm : Zi c mg) : ∃ (w : Int32) (pd' mg' : Nat → Int32) (k d B' : Nat) (P' : Nat → Nat) (ta' : Nat → Int32) (F' O' G' H' S' D' : Nat → Nat) (v1 : StV), f_X1_pass (pd, mg, pn) (nI c, nI m, nI q, nI B, nI g, nf P, gu, nf b, aw, ta, ins, nf F, nf O, nf G, nf H, nf S, nf D) = some (w, ((pd', mg', nI (q * k)), (nI c, nI (m + 1), nI q, nI B', nI g, nf P', gu, nf (fun _ => 0), fun _ => 0, ta', ins, nf F', nf O', nf G', nf H', nf S', nf D'))) ∧
    f_X1_payIn (pd, mg, pn) (nI c, nI m, nI q, nI B, nI g, nf P, gu, nf b, aw, ta, ins, nf F, nf O, nf G, nf H, nf S, nf D) = some ((), ((pd', mg', nI (q * k)), v1)) ∧ OkW c (m + 1) q B' g P' gu (fun _ => 0) (fun _ => 0) ta' ins F' O' G' H' S' D' ∧ Zi c pd' ∧ Zi c mg' ∧ k ≤ 14 ∧ su c F' + su c O' = su c F + su c O + q * k ∧ su c S' = su c S + d ∧ d ≤ 7 ∧
    ((w = (-99999:Int32) ∧ B' = B + q * k) ∨ (∃ W x, W < c ∧ w = nI W ∧ ta' W = 1 ∧ G' W = x ∧ x ≤ q * k ∧ q * k ≤ 2 * x)) ∧ ((∃ j, j < c ∧ ins j = 1) ∨ (k = 0 ∧ w = (-99999:Int32))) := by
  have hP9 := h.P9
  have h0 := h
  obtain ⟨⟨g1, g2, g3, g4, g5⟩, g6, hg, ha, ht, hi, hb, hF, hD, hDb, zP, zgu, zb, za, zt, zi, zF, zO, zG, zH, zS⟩ := h
  obtain ⟨pd', mg', k, P1, F1, O1, S1, D1, d, a1, b1, b2, b3, b4, b5, b6, b7, b8, b9, b10, b11, b12, b13, b14⟩ := payIn (pd := pd) (mg := mg) (pn := pn) (m := m) (q := q) (B := B) (g := g) (b := b) (ta := ta) (F := F) (O := O) (G := G) (H := H) (S := S) (D := D) (by omega) hi ha hg hP9 g2 zp zm
  have tq : q * k ≤ 1000 := by
    have : q * k ≤ 20 * 14 := Nat.mul_le_mul g2 (by omega)
    omega
  have zP1 : Zn c P1 := fun j hj => by have := b6 j; have := zP j hj; omega
  have zF1 : Zn c F1 := fun j hj => by rw [(b8 j hj).1]; exact zF j hj
  have zO1 : Zn c O1 := fun j hj => by rw [(b8 j hj).2.1]; exact zO j hj
  have zS1 : Zn c S1 := fun j hj => by rw [(b8 j hj).2.2]; exact zS j hj
  have e2 := taker_x (c := c) (pd := pd') (mg := mg') (pn := nI (q * k)) (co := nI q) (bo := nI B) (gv := nI g) (pu := nf P1) (gu := gu) (bi := nf b) (aw := aw) (pf := nf F1) (po := nf O1) (go := nf G) (sh := nf H) (ms := nf S1) (de := nf D1) (by omega) hi ht (fun j _ => b11 j) (mo := nI m) (m := m) rfl (by omega)
  rw [cbd_f tq hb] at e2
  have fF : ∀ j, F1 j ≤ 20 * (m + 1) := fun j => by have := b7 j; have := hF j; omega
  have fD : ∀ k, D1 k ≤ 20 * (m + 1) := fun k => by have := b9 k; have := hD k; omega
  have zc0 : Zn c (fun _ => 0) := fun _ _ => rfl
  have zi0 : Zi c (fun _ => 0) := fun _ _ => rfl
  rcases tkS_is (can := cnT ins mg' ta) (cb := nf (kb (q * k) b)) (p := m % c) (c := c) (by omega) c with e | ⟨W, hW, hcan, e⟩
  · rw [e] at e2
    obtain ⟨x, e3, rfl⟩ := on_get (endM (v0 := (pd', mg', nI (q * k))) (w := (-99999:Int32)) (m := m) (q := q) (B := B + q * k) (g := g) (P := P1) (gu := gu) (b := b) (aw := aw) (ta := ta) (ins := ins) (F := F1) (O := O1) (G := G) (H := H) (S := S1) (D := D1) (by omega) zb za)
    have e3 : lp (b_X1_pass_47 (pd', mg', nI (q * k)) (-99999:Int32)) FU ((0:Int32), (nI c, nI m, nI q, nI (B + q * k), nI g, nf P1, gu, nf b, aw, ta, ins, nf F1, nf O1, nf G, nf H, nf S1, nf D1)) = _ := e3
    refine ⟨(-99999:Int32), pd', mg', k, d, B + q * k, P1, ta, F1, O1, G, H, S1, D1, _, ?_, a1, ⟨⟨g1, g2, g3, by omega, g5⟩, by omega, hg, fun _ => Or.inl rfl, ht, hi, fun _ => Nat.zero_le _, fF, fD, b10 hDb, zP1, zgu, zc0, zi0, zt, zi, zF1, zO1, zG, zH, zS1⟩, b12, b13, by omega, b3, b4, by omega, Or.inl ⟨rfl, rfl⟩, ?_⟩
    · simp only [f_X1_pass, a1, bd_s, e2, St_count, St_month, St_contribution, St_box, St_given, St_purse, St_guarantor, St_bid, St_away, St_taken, St_inside, St_paidForItself, St_paidForOthers, St_gotOfPot, St_shares, St_misses, St_debt, St_count_s, St_month_s, St_contribution_s, St_box_s, St_given_s, St_purse_s, St_guarantor_s, St_bid_s, St_away_s, St_taken_s, St_inside_s, St_paidForItself_s, St_paidForOthers_s, St_gotOfPot_s, St_shares_s, St_misses_s, St_debt_s, Rd_paid, Rd_missing, Rd_pence, Rd_paid_s, Rd_missing_s, Rd_pence_s, lt_e, q_add, nI_s1, e3, ↓reduceIte]
    · rcases b14 with q | q
      · exact Or.inr ⟨q, rfl⟩
      · exact Or.inl q
  · rw [e] at e2
    have nw : ¬ nI W = (-99999:Int32) := fun q => (nI_neg (by omega)).mp q
    obtain ⟨P2, H2, B2, s1, s2, s3⟩ := share (pd := pd') (mg := mg') (t := q * k) (w := W) (m := m) (q := q) (B := B) (g := g) (P := P1) (gu := gu) (b := b) (aw := aw) (ta := ta) (ins := ins) (F := F1) (O := O1) (G := G) (H := H) (S := S1) (D := D1) (by omega) hi (fun j _ => b11 j) hW tq hb
    obtain ⟨P3, D3, p1, p2, p3, p4⟩ := payOut (pd := pd') (mg := mg') (t := q * k) (w := W) (m := m) (q := q) (B := B2) (g := g) (P := P2) (gu := gu) (b := b) (aw := aw) (ta := ta) (ins := ins) (F := F1) (O := O1) (G := G) (H := H2) (S := S1) (D := D1) (by omega) hW tq hb (fun k => by have := fD k; omega) (b10 hDb)
    obtain ⟨x, e3, rfl⟩ := on_get (endM (v0 := (pd', mg', nI (q * k))) (w := nI W) (m := m) (q := q) (B := B2) (g := g) (P := P3) (gu := gu) (b := b) (aw := aw) (ta := upd ta W 1) (ins := ins) (F := F1) (O := O1) (G := un G W (q * k - kb (q * k) b W)) (H := H2) (S := S1) (D := D3) (by omega) zb za)
    have e3 : lp (b_X1_pass_47 (pd', mg', nI (q * k)) (nI W)) FU ((0:Int32), (nI c, nI m, nI q, nI B2, nI g, nf P3, gu, nf b, aw, upd ta W 1, ins, nf F1, nf O1, nf (un G W (q * k - kb (q * k) b W)), nf H2, nf S1, nf D3)) = _ := e3
    have hk := kb_half (q * k) b W
    refine ⟨nI W, pd', mg', k, d, B2, P3, upd ta W 1, F1, O1, un G W (q * k - kb (q * k) b W), H2, S1, D3, _, ?_, a1, ⟨⟨g1, g2, g3, by omega, g5⟩, by omega, hg, fun _ => Or.inl rfl, ht.upd (Or.inr rfl), hi, fun _ => Nat.zero_le _, fF, fun k => Nat.le_trans (p3 k) (fD k), fun k hk => b10 hDb k (fun z => hk (by have := p3 k; omega)), fun j hj => by rw [p4 j hj, (s3 j hj).1]; exact zP1 j hj, zgu, zc0, zi0, zt.upd hW, zi, zF1, zO1, zG.un hW, fun j hj => by rw [(s3 j hj).2]; exact zH j hj, zS1⟩, b12, b13, by omega, b3, b4, by omega, Or.inr ⟨W, _, hW, rfl, upd_same _ _ _, un_same _ _ _, by omega, by omega⟩, Or.inl ⟨W, hW, ?_⟩⟩
    · simp only [f_X1_pass, a1, bd_s, e2, if_neg nw, s1, p1, St_count, St_month, St_contribution, St_box, St_given, St_purse, St_guarantor, St_bid, St_away, St_taken, St_inside, St_paidForItself, St_paidForOthers, St_gotOfPot, St_shares, St_misses, St_debt, St_count_s, St_month_s, St_contribution_s, St_box_s, St_given_s, St_purse_s, St_guarantor_s, St_bid_s, St_away_s, St_taken_s, St_inside_s, St_paidForItself_s, St_paidForOthers_s, St_gotOfPot_s, St_shares_s, St_misses_s, St_debt_s, Rd_paid, Rd_missing, Rd_pence, Rd_paid_s, Rd_missing_s, Rd_pence_s, lt_e, nI_s1, e3]
    · unfold cnT at hcan
      simp only [Bool.and_eq_true, beq_iff_eq] at hcan
      exact hcan.1.1
end MONTH
theorem month_step {c m q g : Nat} {v : StV} (h : Ok c m q g v) (h1 : 1 ≤ c) (hm : m ≤ 98) : ∃ w k v', Step c m q g v w k v' := by
  obtain ⟨B, P, gu, b, aw, ta, ins, F, O, G, H, S, D, rfl, h⟩ := h
  have z0 : Zi c (fun _ => 0) := fun _ _ => rfl
  obtain ⟨w, pd', mg', k, d, B', P', ta', F', O', G', H', S', D', v1, e1, e2, ok, zp, zm, k1, k2, k3, k4, k5, k6⟩ := month_go (pn := 0) h h1 hm z0 z0
  refine ⟨w, k, _, ⟨B', P', gu, _, _, ta', ins, F', O', G', H', S', D', rfl, ok⟩, k1, ?_, ⟨d, k4, ?_⟩, ?_, rfl, rfl, k6, ?_, fun r hr => ?_⟩
  · show sI c (nf F') + sI c (nf O') = sI c (nf F) + sI c (nf O) + nI (q * k)
    rw [sI_nf, sI_nf, sI_nf, sI_nf, q_add, q_add, q_add, k2]
  · show sI c (nf S') = sI c (nf S) + nI d
    rw [sI_nf, sI_nf, q_add, k3]
  · rfl
  · rcases k5 with ⟨a, b⟩ | ⟨W, x, a1, a2, a3, a4, a5, a6⟩
    · refine Or.inl ⟨a, ?_⟩
      show nI B' = nI B + nI (q * k)
      rw [b, q_add]
    · refine Or.inr ⟨W, x, a1, a2, a3, ?_, a5, a6⟩
      show nf G' W = nI x
      rw [nf_at, a4]
  · obtain ⟨pd, mg, pn⟩ := r
    have hi := h.2.2.2.2.2.1
    have ha := h.2.2.2.1
    have hg := h.2.2.1
    have hc := h.1.2.2.1
    obtain ⟨rr, pu', pf', po', ms', de', f1, f2⟩ := payIn_same (pd := fun _ => 0) (mg := fun _ => 0) (pn := 0) (pd2 := pd) (mg2 := mg) (pn2 := pn) (bx := nf b) (mo := nI m) (co := nI q) (bo := nI B) (gv := nI g) (pu := nf P) (gu := gu) (bi := nf b) (aw := aw) (ta := ta) (ins := ins) (pf := nf F) (po := nf O) (go := nf G) (sh := nf H) (ms := nf S) (de := nf D) (by omega) hi ha hg z0 z0 hr.1 hr.2
    have e : f_X1_payIn (pd, mg, pn) (nI c, nI m, nI q, nI B, nI g, nf P, gu, nf b, aw, ta, ins, nf F, nf O, nf G, nf H, nf S, nf D) = f_X1_payIn (fun _ => 0, fun _ => 0, 0) (nI c, nI m, nI q, nI B, nI g, nf P, gu, nf b, aw, ta, ins, nf F, nf O, nf G, nf H, nf S, nf D) := f2.trans f1.symm
    refine ⟨(pd', mg', nI (q * k)), ⟨zp, zm⟩, rfl, ?_, v1, by rw [e]; exact e2⟩
    rw [← e1]
    simp only [f_X1_pass, e]
end
section
/-! copies of states; what undo takes back -/
section COPY
variable {cc : Int32} {mo co bo gv : Int32} {pu gu bi aw ta ins pf po go sh ms de : Nat → Int32}
variable {pu' gu' bi' aw' ta' ins' pf' po' go' sh' ms' de' : Nat → Int32}
theorem copy_rows {fu : Nat} (hf : 8 < fu) {pu0 gu0 bi0 aw0 ta0 ins0 pf0 po0 go0 sh0 ms0 : Nat → Int32} : One (lp (b_X3_copyFrom_42 (cc, mo, co, bo, gv, pu, gu, bi, aw, ta, ins, pf, po, go, sh, ms, de)) fu ((0:Int32), (cc, mo, co, bo, gv, pu0, gu0, bi0, aw0, ta0, ins0, pf0, po0, go0, sh0, ms0, de'))) (fun e => ∃ pu' gu' bi' aw' ta' ins' pf' po' go' sh' ms', e = (nI 8, (cc, mo, co, bo, gv, pu', gu', bi', aw', ta', ins', pf', po', go', sh', ms', de')) ∧ (∀ j, j < 8 → (pu' j = pu j ∧ gu' j = gu j ∧ bi' j = bi j ∧ aw' j = vp_nar .boolean (aw j) ∧ ta' j = vp_nar .boolean (ta j) ∧ ins' j = vp_nar .boolean (ins j) ∧ pf' j = pf j ∧ po' j = po j ∧ go' j = go j ∧ sh' j = sh j ∧ ms' j = ms j)) ∧ ∀ j, 8 ≤ j → (pu' j = pu0 j ∧ gu' j = gu0 j ∧ bi' j = bi0 j ∧ aw' j = aw0 j ∧ ta' j = ta0 j ∧ ins' j = ins0 j ∧ pf' j = pf0 j ∧ po' j = po0 j ∧ go' j = go0 j ∧ sh' j = sh0 j ∧ ms' j = ms0 j)) := by
  refine lp_one (fun n s => ∃ i pu' gu' bi' aw' ta' ins' pf' po' go' sh' ms', s = (nI i, (cc, mo, co, bo, gv, pu', gu', bi', aw', ta', ins', pf', po', go', sh', ms', de')) ∧ i ≤ 8 ∧ n = 8 - i ∧ (∀ j, j < i → (pu' j = pu j ∧ gu' j = gu j ∧ bi' j = bi j ∧ aw' j = vp_nar .boolean (aw j) ∧ ta' j = vp_nar .boolean (ta j) ∧ ins' j = vp_nar .boolean (ins j) ∧ pf' j = pf j ∧ po' j = po j ∧ go' j = go j ∧ sh' j = sh j ∧ ms' j = ms j)) ∧ ∀ j, 8 ≤ j → (pu' j = pu0 j ∧ gu' j = gu0 j ∧ bi' j = bi0 j ∧ aw' j = aw0 j ∧ ta' j = ta0 j ∧ ins' j = ins0 j ∧ pf' j = pf0 j ∧ po' j = po0 j ∧ go' j = go0 j ∧ sh' j = sh0 j ∧ ms' j = ms0 j)) _ ?_ (n := 8) ⟨0, pu0, gu0, bi0, aw0, ta0, ins0, pf0, po0, go0, sh0, ms0, rfl, by omega, by omega, fun j h => by omega, fun j _ => ⟨rfl, rfl, rfl, rfl, rfl, rfl, rfl, rfl, rfl, rfl, rfl⟩⟩ hf
  rintro n s ⟨i, pu', gu', bi', aw', ta', ins', pf', po', go', sh', ms', rfl, h1, rfl, h2, h3⟩ J hJ
  by_cases h : i = 8
  · subst h
    simp (disch := omega) only [b_X3_copyFrom_42, St_count, St_month, St_contribution, St_box, St_given, St_purse, St_guarantor, St_bid, St_away, St_taken, St_inside, St_paidForItself, St_paidForOthers, St_gotOfPot, St_shares, St_misses, St_debt, St_count_s, St_month_s, St_contribution_s, St_box_s, St_given_s, St_purse_s, St_guarantor_s, St_bid_s, St_away_s, St_taken_s, St_inside_s, St_paidForItself_s, St_paidForOthers_s, St_gotOfPot_s, St_shares_s, St_misses_s, St_debt_s, Rd_paid, Rd_missing, Rd_pence, Rd_paid_s, Rd_missing_s, Rd_pence_s, mul8, lt_e, bd_s, gi_ok, gz2, q_add, nI_s1, nI_clamp, upd_same, nar0, nar1, c0, nf_at, nf_un, le8, Nat.le_refl, ↓reduceIte]
    exact ⟨pu', gu', bi', aw', ta', ins', pf', po', go', sh', ms', rfl, h2, h3⟩
  · have n8 : ¬ 8 ≤ i := by omega
    simp (disch := omega) only [b_X3_copyFrom_42, St_count, St_month, St_contribution, St_box, St_given, St_purse, St_guarantor, St_bid, St_away, St_taken, St_inside, St_paidForItself, St_paidForOthers, St_gotOfPot, St_shares, St_misses, St_debt, St_count_s, St_month_s, St_contribution_s, St_box_s, St_given_s, St_purse_s, St_guarantor_s, St_bid_s, St_away_s, St_taken_s, St_inside_s, St_paidForItself_s, St_paidForOthers_s, St_gotOfPot_s, St_shares_s, St_misses_s, St_debt_s, Rd_paid, Rd_missing, Rd_pence, Rd_paid_s, Rd_missing_s, Rd_pence_s, mul8, lt_e, bd_s, gi_ok, gz2, q_add, nI_s1, nI_clamp, upd_same, nar0, nar1, c0, nf_at, nf_un, le8, n8, ↓reduceIte]
    refine hJ _ _ (by omega) ⟨i + 1, _, _, _, _, _, _, _, _, _, _, _, rfl, by omega, rfl, fun j hj => ?_, fun j hj => by simp only [upd_ne (show j ≠ i by omega)]; exact h3 j hj⟩
    by_cases e : j = i
    · subst e
      simp only [upd_same, and_self]
    · simp only [upd_ne e]
      exact h2 j (by omega)
theorem copy_debt {fu : Nat} (hf : 64 < fu) {de0 : Nat → Int32} : One (lp (b_X3_copyFrom_188 (cc, mo, co, bo, gv, pu, gu, bi, aw, ta, ins, pf, po, go, sh, ms, de)) fu ((0:Int32), (cc, mo, co, bo, gv, pu', gu', bi', aw', ta', ins', pf', po', go', sh', ms', de0))) (fun e => ∃ de', e = (nI 64, (cc, mo, co, bo, gv, pu', gu', bi', aw', ta', ins', pf', po', go', sh', ms', de')) ∧ (∀ k, k < 64 → de' k = de k) ∧ ∀ k, 64 ≤ k → de' k = de0 k) := by
  refine lp_one (fun n s => ∃ i de', s = (nI i, (cc, mo, co, bo, gv, pu', gu', bi', aw', ta', ins', pf', po', go', sh', ms', de')) ∧ i ≤ 64 ∧ n = 64 - i ∧ (∀ k, k < i → de' k = de k) ∧ ∀ k, 64 ≤ k → de' k = de0 k) _ ?_ (n := 64) ⟨0, de0, rfl, by omega, by omega, fun j h => by omega, fun j _ => rfl⟩ hf
  rintro n s ⟨i, de', rfl, h1, rfl, h2, h3⟩ J hJ
  by_cases h : i = 64
  · subst h
    simp (disch := omega) only [b_X3_copyFrom_188, St_count, St_month, St_contribution, St_box, St_given, St_purse, St_guarantor, St_bid, St_away, St_taken, St_inside, St_paidForItself, St_paidForOthers, St_gotOfPot, St_shares, St_misses, St_debt, St_count_s, St_month_s, St_contribution_s, St_box_s, St_given_s, St_purse_s, St_guarantor_s, St_bid_s, St_away_s, St_taken_s, St_inside_s, St_paidForItself_s, St_paidForOthers_s, St_gotOfPot_s, St_shares_s, St_misses_s, St_debt_s, Rd_paid, Rd_missing, Rd_pence, Rd_paid_s, Rd_missing_s, Rd_pence_s, mul8, lt_e, bd_s, gi_ok, gz2, q_add, nI_s1, nI_clamp, upd_same, nar0, nar1, c0, nf_at, nf_un, le64, Nat.le_refl, ↓reduceIte]
    exact ⟨de', rfl, h2, h3⟩
  · have n8 : ¬ 64 ≤ i := by omega
    simp (disch := omega) only [b_X3_copyFrom_188, St_count, St_month, St_contribution, St_box, St_given, St_purse, St_guarantor, St_bid, St_away, St_taken, St_inside, St_paidForItself, St_paidForOthers, St_gotOfPot, St_shares, St_misses, St_debt, St_count_s, St_month_s, St_contribution_s, St_box_s, St_given_s, St_purse_s, St_guarantor_s, St_bid_s, St_away_s, St_taken_s, St_inside_s, St_paidForItself_s, St_paidForOthers_s, St_gotOfPot_s, St_shares_s, St_misses_s, St_debt_s, Rd_paid, Rd_missing, Rd_pence, Rd_paid_s, Rd_missing_s, Rd_pence_s, mul8, lt_e, bd_s, gi_ok, gz2, q_add, nI_s1, nI_clamp, upd_same, nar0, nar1, c0, nf_at, nf_un, le64, n8, ↓reduceIte]
    refine hJ _ _ (by omega) ⟨i + 1, _, rfl, by omega, rfl, fun j hj => ?_, fun j hj => by rw [upd_ne (by omega)]; exact h3 j hj⟩
    by_cases e : j = i
    · subst e; rw [upd_same]
    · rw [upd_ne e]; exact h2 j (by omega)
theorem nar_bo {x : Int32} (h : x = 0 ∨ x = 1) : vp_nar .boolean x = x := by
  rcases h with rfl | rfl
  · rfl
  · rfl
end COPY
/-- nothing in the rows behind their ends -/
def Z8 (v : StV) : Prop := (Zi 8 (St_purse v) ∧ Zi 8 (St_guarantor v) ∧ Zi 8 (St_bid v) ∧ Zi 8 (St_away v) ∧ Zi 8 (St_taken v) ∧ Zi 8 (St_inside v) ∧ Zi 8 (St_paidForItself v) ∧ Zi 8 (St_paidForOthers v) ∧ Zi 8 (St_gotOfPot v) ∧ Zi 8 (St_shares v) ∧ Zi 8 (St_misses v) ∧ Zi 64 (St_debt v)) ∧ Bo (St_away v) ∧ Bo (St_taken v) ∧ Bo (St_inside v)
theorem row_eq {n : Nat} {f f' f0 : Nat → Int32} (h : ∀ j, j < n → f' j = f j) (h1 : ∀ j, n ≤ j → f' j = f0 j) (z : Zi n f) (z0 : Zi n f0) : f' = f := funext fun j => by
  by_cases hj : j < n
  · exact h j hj
  · rw [h1 j (by omega), z j (by omega), z0 j (by omega)]
theorem copy_is {v t : StV} (hv : Z8 v) (ht : Z8 t) : f_X3_copyFrom t v = some ((), v) := by
  obtain ⟨c, mo, co, bo, gv, pu, gu, bi, aw, ta, ins, pf, po, go, sh, ms, de⟩ := v
  obtain ⟨c0, mo0, co0, bo0, gv0, pu0, gu0, bi0, aw0, ta0, ins0, pf0, po0, go0, sh0, ms0, de0⟩ := t
  obtain ⟨⟨a1, a2, a3, a4, a5, a6, a7, a8, a9, a10, a11, a12⟩, ba, bt, bn⟩ := hv
  obtain ⟨⟨b1, b2, b3, b4, b5, b6, b7, b8, b9, b10, b11, b12⟩, -⟩ := ht
  obtain ⟨e, e1, pu', gu', bi', aw', ta', ins', pf', po', go', sh', ms', rfl, h2, h3⟩ := lp_get (n := 8) (by omega) (fun fu hf => copy_rows (fu := fu) hf (cc := c) (mo := mo) (co := co) (bo := bo) (gv := gv) (pu := pu) (gu := gu) (bi := bi) (aw := aw) (ta := ta) (ins := ins) (pf := pf) (po := po) (go := go) (sh := sh) (ms := ms) (de := de) (de' := de0) (pu0 := pu0) (gu0 := gu0) (bi0 := bi0) (aw0 := aw0) (ta0 := ta0) (ins0 := ins0) (pf0 := pf0) (po0 := po0) (go0 := go0) (sh0 := sh0) (ms0 := ms0))
  obtain ⟨e, e2, de', rfl, h4, h5⟩ := lp_get (n := 64) (by omega) (fun fu hf => copy_debt (fu := fu) hf (cc := c) (mo := mo) (co := co) (bo := bo) (gv := gv) (pu := pu) (gu := gu) (bi := bi) (aw := aw) (ta := ta) (ins := ins) (pf := pf) (po := po) (go := go) (sh := sh) (ms := ms) (de := de) (de0 := de0) (pu' := pu') (gu' := gu') (bi' := bi') (aw' := aw') (ta' := ta') (ins' := ins') (pf' := pf') (po' := po') (go' := go') (sh' := sh') (ms' := ms'))
  have q0 : pu' = pu := row_eq (fun j hj => (h2 j hj).1) (fun j hj => (h3 j hj).1) a1 b1
  have q1 : gu' = gu := row_eq (fun j hj => (h2 j hj).2.1) (fun j hj => (h3 j hj).2.1) a2 b2
  have q2 : bi' = bi := row_eq (fun j hj => (h2 j hj).2.2.1) (fun j hj => (h3 j hj).2.2.1) a3 b3
  have q3 : aw' = aw := row_eq (fun j hj => ((h2 j hj).2.2.2.1).trans (nar_bo (ba j))) (fun j hj => (h3 j hj).2.2.2.1) a4 b4
  have q4 : ta' = ta := row_eq (fun j hj => ((h2 j hj).2.2.2.2.1).trans (nar_bo (bt j))) (fun j hj => (h3 j hj).2.2.2.2.1) a5 b5
  have q5 : ins' = ins := row_eq (fun j hj => ((h2 j hj).2.2.2.2.2.1).trans (nar_bo (bn j))) (fun j hj => (h3 j hj).2.2.2.2.2.1) a6 b6
  have q6 : pf' = pf := row_eq (fun j hj => (h2 j hj).2.2.2.2.2.2.1) (fun j hj => (h3 j hj).2.2.2.2.2.2.1) a7 b7
  have q7 : po' = po := row_eq (fun j hj => (h2 j hj).2.2.2.2.2.2.2.1) (fun j hj => (h3 j hj).2.2.2.2.2.2.2.1) a8 b8
  have q8 : go' = go := row_eq (fun j hj => (h2 j hj).2.2.2.2.2.2.2.2.1) (fun j hj => (h3 j hj).2.2.2.2.2.2.2.2.1) a9 b9
  have q9 : sh' = sh := row_eq (fun j hj => (h2 j hj).2.2.2.2.2.2.2.2.2.1) (fun j hj => (h3 j hj).2.2.2.2.2.2.2.2.2.1) a10 b10
  have q10 : ms' = ms := row_eq (fun j hj => (h2 j hj).2.2.2.2.2.2.2.2.2.2) (fun j hj => (h3 j hj).2.2.2.2.2.2.2.2.2.2) a11 b11
  have q11 : de' = de := row_eq h4 h5 a12 b12
  subst q0; subst q1; subst q2; subst q3; subst q4; subst q5; subst q6; subst q7; subst q8; subst q9; subst q10; subst q11
  simp only [f_X3_copyFrom, St_count, St_month, St_contribution, St_box, St_given, St_purse, St_guarantor, St_bid, St_away, St_taken, St_inside, St_paidForItself, St_paidForOthers, St_gotOfPot, St_shares, St_misses, St_debt, St_count_s, St_month_s, St_contribution_s, St_box_s, St_given_s, St_purse_s, St_guarantor_s, St_bid_s, St_away_s, St_taken_s, St_inside_s, St_paidForItself_s, St_paidForOthers_s, St_gotOfPot_s, St_shares_s, St_misses_s, St_debt_s, Rd_paid, Rd_missing, Rd_pence, Rd_paid_s, Rd_missing_s, Rd_pence_s, lt_e, e1, e2, bd_s]
theorem Ok.z {c m q g : Nat} {v : StV} (h : Ok c m q g v) : Z8 v := by
  obtain ⟨B, P, gu, b, aw, ta, ins, F, O, G, H, S, D, rfl, h⟩ := h
  obtain ⟨⟨g1, g2, g3, g4, g5⟩, g6, hg, ha, ht, hi, hb, hF, hD, hDb, zP, zgu, zb, za, zt, zi, zF, zO, zG, zH, zS⟩ := h
  have n8 : ∀ {f : Nat → Nat}, Zn c f → Zi 8 (nf f) := fun {f} h j hj => by rw [nf_at, h j (by omega)]; rfl
  refine ⟨⟨n8 zP, zgu.up (by omega), n8 zb, za.up (by omega), zt.up (by omega), zi.up (by omega), n8 zF, n8 zO, n8 zG, n8 zH, n8 zS, fun k hk => ?_⟩, ha, ht, hi⟩
  show nf D k = 0
  have : D k = 0 := by
    by_cases e : D k = 0
    · exact e
    · obtain ⟨i, j, h1, h2, -, rfl⟩ := hDb k e
      omega
  rw [nf_at, this]
  rfl
/-- the past: its last ones, the latest first -/
def Top (p : PaV) (l : List StV) : Prop := ∃ s x, p.1 = nI s ∧ p.2.1 = nI x ∧ s ≤ 14 ∧ x < 14 ∧ l.length ≤ s ∧ (∀ k, Z8 (p.2.2 k)) ∧ ∀ i v, l[i]? = some v → p.2.2 ((x + 13 - i) % 14) = v
theorem Top.nil {p : PaV} {l : List StV} (h : Top p l) : Top p [] := by
  obtain ⟨s, x, h1, h2, h3, h4, h5, h6, h7⟩ := h
  exact ⟨s, x, h1, h2, h3, h4, by simp, h6, fun i v e => by simp at e⟩
theorem Top.remember {p : PaV} {l : List StV} {v : StV} (h : Top p l) (hl : l.length ≤ 13) (hv : Z8 v) : ∃ p', f_X0_remember p v = some ((), p') ∧ Top p' (v :: l) := by
  obtain ⟨s, x, h1, h2, h3, h4, h5, h6, h7⟩ := h
  obtain ⟨sz, nx, f⟩ := p
  have h1 : sz = nI s := h1
  have h2 : nx = nI x := h2
  subst h1; subst h2
  have e := copy_is hv (h6 x)
  have e : f_X3_copyFrom (f x) v = some ((), v) := e
  have key : Top (nI (if s = 14 then 14 else s + 1), nI ((x + 1) % 14), upS f x v) (v :: l) := by
    refine ⟨_, _, rfl, rfl, by split <;> omega, Nat.mod_lt _ (by omega), by simp only [List.length_cons]; split <;> omega, fun k => ?_, fun i w hw => ?_⟩
    · show Z8 (upS f x v k)
      unfold upS
      split
      · exact hv
      · exact h6 k
    · show upS f x v (((x + 1) % 14 + 13 - i) % 14) = w
      cases i with
      | zero =>
        have e1 : ((x + 1) % 14 + 13 - 0) % 14 = x := by omega
        rw [e1]
        unfold upS
        rw [if_pos rfl]
        exact Option.some.inj hw
      | succ i =>
        have hi : i < l.length := by
          have : l[i]? = some w := hw
          exact (List.getElem?_eq_some_iff.mp this).1
        have e1 : ((x + 1) % 14 + 13 - (i + 1)) % 14 = (x + 13 - i) % 14 := by omega
        have e2 : ¬ (x + 13 - i) % 14 = x := by omega
        rw [e1]
        unfold upS
        rw [if_neg e2]
        exact h7 i w hw
  refine ⟨_, ?_, key⟩
  have e14 : (14:Int32) = nI 14 := rfl
  by_cases w1 : x = 13
  · subst w1
    by_cases w2 : s = 14
    · subst w2
      simp (decide := true) (disch := omega) only [f_X0_remember, Pa_next, Pa_states, Pa_states_s, Pa_next_s, Pa_size, Pa_size_s, mul8, lt_e, bd_s, gi_ok, gz2, q_add, nI_s1, nI_clamp, upd_same, nar0, nar1, c0, nf_at, nf_un, e, le14, e14, nI_lti, nI_lei, ↓reduceIte]
      rfl
    · have w3 : ¬ 14 < s + 1 := by omega
      simp (decide := true) (disch := omega) only [f_X0_remember, Pa_next, Pa_states, Pa_states_s, Pa_next_s, Pa_size, Pa_size_s, mul8, lt_e, bd_s, gi_ok, gz2, q_add, nI_s1, nI_clamp, upd_same, nar0, nar1, c0, nf_at, nf_un, e, le14, e14, nI_lti, nI_lei, w2, w3, ↓reduceIte]
      rfl
  · have w4 : ¬ 14 ≤ x + 1 := by omega
    have w5 : (x + 1) % 14 = x + 1 := Nat.mod_eq_of_lt (by omega)
    by_cases w2 : s = 14
    · rw [w5]
      have w6 : 14 < s + 1 := by omega
      simp (decide := true) (disch := omega) only [f_X0_remember, Pa_next, Pa_states, Pa_states_s, Pa_next_s, Pa_size, Pa_size_s, mul8, lt_e, bd_s, gi_ok, gz2, q_add, nI_s1, nI_clamp, upd_same, nar0, nar1, c0, nf_at, nf_un, e, le14, e14, nI_lti, nI_lei, w2, w4, w6, ↓reduceIte]
    · rw [w5]
      have w3 : ¬ 14 < s + 1 := by omega
      simp (decide := true) (disch := omega) only [f_X0_remember, Pa_next, Pa_states, Pa_states_s, Pa_next_s, Pa_size, Pa_size_s, mul8, lt_e, bd_s, gi_ok, gz2, q_add, nI_s1, nI_clamp, upd_same, nar0, nar1, c0, nf_at, nf_un, e, le14, e14, nI_lti, nI_lei, w2, w3, w4, ↓reduceIte]
theorem Top.undo {p : PaV} {l : List StV} {v w : StV} (h : Top p (v :: l)) (hw : Z8 w) : ∃ s p', s ≤ 14 ∧ f_X5_undo w p = some (nI s, (v, p')) ∧ Top p' l := by
  obtain ⟨s, x, h1, h2, h3, h4, h5, h6, h7⟩ := h
  obtain ⟨sz, nx, f⟩ := p
  have h1 : sz = nI s := h1
  have h2 : nx = nI x := h2
  subst h1; subst h2
  simp only [List.length_cons] at h5
  obtain ⟨y, hy⟩ : ∃ y, (x + 13) % 14 = y := ⟨_, rfl⟩
  have hv : f ((x + 13 - 0) % 14) = v := h7 0 v rfl
  rw [Nat.sub_zero, hy] at hv
  have e := copy_is (h6 y) hw
  have e : f_X3_copyFrom w (f y) = some ((), f y) := e
  rw [hv] at e
  have s0 : (0:Int32) < nI s := (nI_lti (a := 0) (by omega) (by omega)).mpr (by omega)
  have s1 : nI s - (1:Int32) = nI (s - 1) := nI_sub (b := 1) (by omega)
  have key : f_X5_undo w (nI s, nI x, f) = some (nI (s - 1), (v, (nI (s - 1), nI y, f))) := by
    by_cases q : x = 0
    · have y13 : y = 13 := by omega
      rw [y13] at hv ⊢
      rw [q]
      have g13 : ∀ {β : Type} {k : Option β}, gi (13:Int32) 14 k = k := fun {β k} => if_neg (by decide)
      have c13 : (13:Int32).toNatClampNeg = 13 := by decide
      have z13 : nI 13 = (13:Int32) := by decide
      rw [z13]
      simp (disch := omega) only [f_X5_undo, f_X0_takeBack, Pa_next, Pa_states, Pa_next_s, Pa_size, Pa_size_s, s0, ge0, Nat.le_refl, lt_e, s1, g13, c13, hv, e, bd_s, ↓reduceIte]
    · have x0 : ¬ x ≤ 0 := by omega
      have x2 : x - 1 = y := by omega
      have x1 : nI x - (1:Int32) = nI y := by rw [← x2]; exact nI_sub (b := 1) (by omega)
      simp (disch := omega) only [f_X5_undo, f_X0_takeBack, Pa_next, Pa_states, Pa_next_s, Pa_size, Pa_size_s, s0, ge0, x0, lt_e, s1, x1, gi_ok, nI_clamp, hv, e, bd_s, ↓reduceIte]
  refine ⟨s - 1, (nI (s - 1), nI y, f), by omega, key, s - 1, y, rfl, rfl, by omega, by omega, by omega, h6, fun i w' hw' => ?_⟩
  have hi : i < l.length := (List.getElem?_eq_some_iff.mp hw').1
  have e1 : (y + 13 - i) % 14 = (x + 13 - (i + 1)) % 14 := by omega
  show f ((y + 13 - i) % 14) = w'
  rw [e1]
  exact h7 (i + 1) w' hw'
end
section
/-! what a good state answers -/
section ASK
variable {c m q B g : Nat} {P : Nat → Nat} {gu : Nat → Int32} {b : Nat → Nat} {aw ta ins : Nat → Int32} {F O G H S D : Nat → Nat}
variable {v : StV} {n : Nat}
theorem req {i : Nat} (h : St_count v = nI n) (hi : i < n) (hn : n ≤ 8) : f_X5_requireMember v (nI i) = some ((), ()) := by
  have k : ¬ n ≤ i := by omega
  have h : v.1 = nI n := h
  simp (disch := omega) only [f_X5_requireMember, f_X3_exists, St_count, h, nI_nn, nI_lei, k, bd_s, o_ne, ↓reduceIte]
theorem req2 {i j : Nat} (h : St_count v = nI n) (hi : i < n) (hj : j < n) (hij : i ≠ j) (hn : n ≤ 8) : f_X5_requireTwoMembers v (nI i) (nI j) = some ((), ()) := by
  simp (disch := omega) only [f_X5_requireTwoMembers, req h hi hn, req h hj hn, bd_s, nI_inj, hij, ↓reduceIte]
theorem mem_0 {i : Nat} (h : St_count v = nI n) (hi : i < n) (hn : n ≤ 8) : f_X5_member v (nI i) (0:Int32) = some (St_purse v i, ()) := by
  have e8 : ∀ {β : Type} {k : Option β}, gi (nI i) 8 k = k := fun {β k} => gi_ok (by omega) (by omega)
  simp (decide := true) (disch := omega) only [f_X5_member, req h hi hn, bd_s, e8, nI_clamp, ↓reduceIte]
theorem mem_1 {i : Nat} (h : St_count v = nI n) (hi : i < n) (hn : n ≤ 8) : f_X5_member v (nI i) (1:Int32) = some (St_guarantor v i, ()) := by
  have e8 : ∀ {β : Type} {k : Option β}, gi (nI i) 8 k = k := fun {β k} => gi_ok (by omega) (by omega)
  simp (decide := true) (disch := omega) only [f_X5_member, req h hi hn, bd_s, e8, nI_clamp, ↓reduceIte]
theorem mem_2 {i : Nat} (h : St_count v = nI n) (hi : i < n) (hn : n ≤ 8) : f_X5_member v (nI i) (2:Int32) = some (St_bid v i, ()) := by
  have e8 : ∀ {β : Type} {k : Option β}, gi (nI i) 8 k = k := fun {β k} => gi_ok (by omega) (by omega)
  simp (decide := true) (disch := omega) only [f_X5_member, req h hi hn, bd_s, e8, nI_clamp, ↓reduceIte]
theorem mem_3 {i : Nat} (h : St_count v = nI n) (hi : i < n) (hn : n ≤ 8) (hb : Bo (St_away v)) : f_X5_member v (nI i) (3:Int32) = some (St_away v i, ()) := by
  have e8 : ∀ {β : Type} {k : Option β}, gi (nI i) 8 k = k := fun {β k} => gi_ok (by omega) (by omega)
  simp (decide := true) (disch := omega) only [f_X5_member, req h hi hn, bd_s, e8, nI_clamp, ↓reduceIte] 
  rcases hb i with e | e
  · rw [if_pos e, e]
  · rw [if_neg (by rw [e]; decide), e]
theorem mem_4 {i : Nat} (h : St_count v = nI n) (hi : i < n) (hn : n ≤ 8) (hb : Bo (St_taken v)) : f_X5_member v (nI i) (4:Int32) = some (St_taken v i, ()) := by
  have e8 : ∀ {β : Type} {k : Option β}, gi (nI i) 8 k = k := fun {β k} => gi_ok (by omega) (by omega)
  simp (decide := true) (disch := omega) only [f_X5_member, req h hi hn, bd_s, e8, nI_clamp, ↓reduceIte] 
  rcases hb i with e | e
  · rw [if_pos e, e]
  · rw [if_neg (by rw [e]; decide), e]
theorem mem_5 {i : Nat} (h : St_count v = nI n) (hi : i < n) (hn : n ≤ 8) (hb : Bo (St_inside v)) : f_X5_member v (nI i) (5:Int32) = some (St_inside v i, ()) := by
  have e8 : ∀ {β : Type} {k : Option β}, gi (nI i) 8 k = k := fun {β k} => gi_ok (by omega) (by omega)
  simp (decide := true) (disch := omega) only [f_X5_member, req h hi hn, bd_s, e8, nI_clamp, ↓reduceIte] 
  rcases hb i with e | e
  · rw [if_pos e, e]
  · rw [if_neg (by rw [e]; decide), e]
theorem mem_6 {i : Nat} (h : St_count v = nI n) (hi : i < n) (hn : n ≤ 8) : f_X5_member v (nI i) (6:Int32) = some (St_paidForItself v i, ()) := by
  have e8 : ∀ {β : Type} {k : Option β}, gi (nI i) 8 k = k := fun {β k} => gi_ok (by omega) (by omega)
  simp (decide := true) (disch := omega) only [f_X5_member, req h hi hn, bd_s, e8, nI_clamp, ↓reduceIte]
theorem mem_7 {i : Nat} (h : St_count v = nI n) (hi : i < n) (hn : n ≤ 8) : f_X5_member v (nI i) (7:Int32) = some (St_paidForOthers v i, ()) := by
  have e8 : ∀ {β : Type} {k : Option β}, gi (nI i) 8 k = k := fun {β k} => gi_ok (by omega) (by omega)
  simp (decide := true) (disch := omega) only [f_X5_member, req h hi hn, bd_s, e8, nI_clamp, ↓reduceIte]
theorem mem_8 {i : Nat} (h : St_count v = nI n) (hi : i < n) (hn : n ≤ 8) : f_X5_member v (nI i) (8:Int32) = some (St_gotOfPot v i, ()) := by
  have e8 : ∀ {β : Type} {k : Option β}, gi (nI i) 8 k = k := fun {β k} => gi_ok (by omega) (by omega)
  simp (decide := true) (disch := omega) only [f_X5_member, req h hi hn, bd_s, e8, nI_clamp, ↓reduceIte]
theorem mem_9 {i : Nat} (h : St_count v = nI n) (hi : i < n) (hn : n ≤ 8) : f_X5_member v (nI i) (9:Int32) = some (St_shares v i, ()) := by
  have e8 : ∀ {β : Type} {k : Option β}, gi (nI i) 8 k = k := fun {β k} => gi_ok (by omega) (by omega)
  simp (decide := true) (disch := omega) only [f_X5_member, req h hi hn, bd_s, e8, nI_clamp, ↓reduceIte]
theorem mem_10 {i : Nat} (h : St_count v = nI n) (hi : i < n) (hn : n ≤ 8) : f_X5_member v (nI i) (10:Int32) = some (St_misses v i, ()) := by
  have e8 : ∀ {β : Type} {k : Option β}, gi (nI i) 8 k = k := fun {β k} => gi_ok (by omega) (by omega)
  simp (decide := true) (disch := omega) only [f_X5_member, req h hi hn, bd_s, e8, nI_clamp, ↓reduceIte]
theorem ab_0 : f_X5_about v (0:Int32) = some (St_count v, ()) := by simp (decide := true) only [f_X5_about, ↓reduceIte]
theorem ab_2 : f_X5_about v (2:Int32) = some (St_month v, ()) := by simp (decide := true) only [f_X5_about, ↓reduceIte]
theorem ab_3 : f_X5_about v (3:Int32) = some (St_contribution v, ()) := by simp (decide := true) only [f_X5_about, ↓reduceIte]
theorem ab_4 : f_X5_about v (4:Int32) = some (St_box v, ()) := by simp (decide := true) only [f_X5_about, ↓reduceIte]
theorem ab_8 : f_X5_about v (8:Int32) = some (St_given v, ()) := by simp (decide := true) only [f_X5_about, ↓reduceIte]
/-- waiting, as a row -/
def wt (ins ta : Nat → Int32) : Nat → Int32 := fun j => if ins j = 0 then 0 else if ta j = 0 then 1 else 0
theorem wt_bo (ins ta : Nat → Int32) : Bo (wt ins ta) := fun j => by
  unfold wt
  split
  · exact Or.inl rfl
  · split
    · exact Or.inr rfl
    · exact Or.inl rfl
theorem sI_bo {f : Nat → Int32} (h : Bo f) : ∀ c, ∃ k, k ≤ c ∧ sI c f = nI k ∧ (k = 0 → ∀ j, j < c → f j = 0) ∧ ((∀ j, j < c → f j = 0) → k = 0)
  | 0 => ⟨0, Nat.le_refl _, rfl, fun _ j hj => by omega, fun _ => rfl⟩
  | c + 1 => by
    obtain ⟨k, h1, h2, h3, h4⟩ := sI_bo h c
    rcases h c with e | e
    · refine ⟨k, by omega, by unfold sI; rw [h2, e, add0], fun hk j hj => ?_, fun hz => h4 fun j hj => hz j (by omega)⟩
      by_cases q : j = c
      · rw [q, e]
      · exact h3 hk j (by omega)
    · refine ⟨k + 1, by omega, by unfold sI; rw [h2, e, nI_s1], fun hk => by omega, fun hz => ?_⟩
      have := hz c (by omega)
      rw [e] at this
      exact absurd this (by decide)
theorem inside_n (h : St_count v = nI n) (hn : n ≤ 8) (hb : Bo (St_inside v)) : f_X3_countInside v = some (sI n (St_inside v), ()) := by
  have hc : v.1 = nI n := h
  obtain ⟨e, e1, rfl⟩ := on_get (lp_one (b := b_X3_countInside_4 v) (fun k s => ∃ i, s = (sI i (St_inside v), nI i) ∧ i ≤ n ∧ k = n - i) (fun e => e = (sI n (St_inside v), nI n)) (by
    rintro k s ⟨i, rfl, h1, rfl⟩ J hJ
    by_cases q : i = n
    · subst q
      simp (disch := omega) only [b_X3_countInside_4, St_count, hc, nI_lei, Nat.le_refl, ↓reduceIte]
      rfl
    · have ni : ¬ n ≤ i := by omega
      have e8 : ∀ {β : Type} {k : Option β}, gi (nI i) 8 k = k := fun {β k} => gi_ok (by omega) (by omega)
      have next : J (sI (i + 1) (St_inside v), nI (i + 1)) := hJ _ _ (by omega) ⟨i + 1, rfl, by omega, rfl⟩
      unfold sI at next
      rcases hb i with e | e
      · rw [e, add0] at next
        simp (disch := omega) only [b_X3_countInside_4, St_count, hc, nI_lei, ni, e8, nI_clamp, e, lt_e, nI_s1, ↓reduceIte]
        exact next
      · rw [e] at next
        simp (disch := omega) only [b_X3_countInside_4, St_count, hc, nI_lei, ni, e8, nI_clamp, e, o_ne, lt_e, nI_s1, ↓reduceIte]
        exact next) (n := n) (fu := FU) (s := ((0:Int32), (0:Int32))) ⟨0, rfl, by omega, by omega⟩ (FU_gt (by omega)))
  rw [f_X3_countInside, e1, bd_s]
theorem waiting_n (h : St_count v = nI n) (hn : n ≤ 8) : f_X3_countWaiting v = some (sI n (wt (St_inside v) (St_taken v)), ()) := by
  have hc : v.1 = nI n := h
  obtain ⟨e, e1, rfl⟩ := on_get (lp_one (b := b_X3_countWaiting_4 v) (fun k s => ∃ i, s = (sI i (wt (St_inside v) (St_taken v)), nI i) ∧ i ≤ n ∧ k = n - i) (fun e => e = (sI n (wt (St_inside v) (St_taken v)), nI n)) (by
    rintro k s ⟨i, rfl, h1, rfl⟩ J hJ
    by_cases q : i = n
    · subst q
      simp (disch := omega) only [b_X3_countWaiting_4, St_count, hc, nI_lei, Nat.le_refl, ↓reduceIte]
      rfl
    · have ni : ¬ n ≤ i := by omega
      have e8 : ∀ {β : Type} {k : Option β}, gi (nI i) 8 k = k := fun {β k} => gi_ok (by omega) (by omega)
      have next : J (sI (i + 1) (wt (St_inside v) (St_taken v)), nI (i + 1)) := hJ _ _ (by omega) ⟨i + 1, rfl, by omega, rfl⟩
      unfold sI at next
      have hw : wt (St_inside v) (St_taken v) i = if St_inside v i = 0 then 0 else if St_taken v i = 0 then 1 else 0 := rfl
      by_cases e : St_inside v i = 0
      · rw [hw, if_pos e, add0] at next
        simp (disch := omega) only [b_X3_countWaiting_4, St_count, hc, nI_lei, ni, e8, nI_clamp, e, lt_e, nI_s1, ↓reduceIte]
        exact next
      · by_cases e2 : St_taken v i = 0
        · rw [hw, if_neg e, if_pos e2] at next
          simp (disch := omega) only [b_X3_countWaiting_4, St_count, hc, nI_lei, ni, e8, nI_clamp, if_neg e, e2, lt_e, nI_s1, ↓reduceIte]
          exact next
        · rw [hw, if_neg e, if_neg e2, add0] at next
          simp (disch := omega) only [b_X3_countWaiting_4, St_count, hc, nI_lei, ni, e8, nI_clamp, if_neg e, if_neg e2, lt_e, nI_s1, ↓reduceIte]
          exact next) (n := n) (fu := FU) (s := ((0:Int32), (0:Int32))) ⟨0, rfl, by omega, by omega⟩ (FU_gt (by omega)))
  rw [f_X3_countWaiting, e1, bd_s]
theorem purses_n (h : St_count v = nI n) (hn : n ≤ 8) : f_X3_sumOfPurses v = some (sI n (St_purse v), ()) := by
  have hc : v.1 = nI n := h
  obtain ⟨e, e1, rfl⟩ := on_get (lp_one (b := b_X3_sumOfPurses_4 v) (fun k s => ∃ i, s = (sI i (St_purse v), nI i) ∧ i ≤ n ∧ k = n - i) (fun e => e = (sI n (St_purse v), nI n)) (by
    rintro k s ⟨i, rfl, h1, rfl⟩ J hJ
    by_cases q : i = n
    · subst q
      simp (disch := omega) only [b_X3_sumOfPurses_4, St_count, hc, nI_lei, Nat.le_refl, ↓reduceIte]
      rfl
    · have ni : ¬ n ≤ i := by omega
      have e8 : ∀ {β : Type} {k : Option β}, gi (nI i) 8 k = k := fun {β k} => gi_ok (by omega) (by omega)
      have next : J (sI (i + 1) (St_purse v), nI (i + 1)) := hJ _ _ (by omega) ⟨i + 1, rfl, by omega, rfl⟩
      unfold sI at next
      simp (disch := omega) only [b_X3_sumOfPurses_4, St_count, hc, nI_lei, ni, e8, nI_clamp, lt_e, nI_s1, ↓reduceIte]
      exact next) (n := n) (fu := FU) (s := ((0:Int32), (0:Int32))) ⟨0, rfl, by omega, by omega⟩ (FU_gt (by omega)))
  rw [f_X3_sumOfPurses, e1, bd_s]
theorem debts_lp {N fu : Nat} (hN : N = 64) (hf : N < fu) : One (lp (b_X3_sumOfDebts_4 v) fu ((0:Int32), (0:Int32))) (fun e => e.1 = sI N (St_debt v)) := by
  refine lp_one (fun k s => ∃ i, s = (sI i (St_debt v), nI i) ∧ i ≤ N ∧ k = N - i) _ ?_ (n := N) ⟨0, rfl, by omega, by omega⟩ hf
  rintro k s ⟨i, rfl, h1, rfl⟩ J hJ
  by_cases q : i = N
  · have le : 64 ≤ i := by omega
    simp (disch := omega) only [b_X3_sumOfDebts_4, le64, le, ↓reduceIte]
    show sI i (St_debt v) = sI N (St_debt v)
    rw [q]
  · have ni : ¬ 64 ≤ i := by omega
    have e8 : ∀ {β : Type} {k : Option β}, gi (nI i) 64 k = k := fun {β k} => gi_ok (by omega) (by omega)
    have next : J (sI (i + 1) (St_debt v), nI (i + 1)) := hJ _ _ (by omega) ⟨i + 1, rfl, by omega, rfl⟩
    unfold sI at next
    simp (disch := omega) only [b_X3_sumOfDebts_4, le64, ni, e8, nI_clamp, lt_e, nI_s1, ↓reduceIte]
    exact next
theorem debts_n : f_X3_sumOfDebts v = some (sI 64 (St_debt v), ()) := by
  have key : ∀ N, N = 64 → f_X3_sumOfDebts v = some (sI N (St_debt v), ()) := by
    intro N hN
    obtain ⟨e, e1, e2⟩ := lp_get (n := N) (by omega) (fun fu hf => debts_lp (v := v) hN hf)
    rw [f_X3_sumOfDebts, e1, bd_s, e2]
  exact key 64 rfl
theorem ab_1 (h : St_count v = nI n) (hn : n ≤ 8) (hb : Bo (St_inside v)) : f_X5_about v (1:Int32) = some (sI n (St_inside v), ()) := by
  simp (decide := true) only [f_X5_about, inside_n h hn hb, bd_s, ↓reduceIte]
theorem ab_5 (h : St_count v = nI n) (hn : n ≤ 8) : f_X5_about v (5:Int32) = some (sI n (St_purse v), ()) := by
  simp (decide := true) only [f_X5_about, purses_n h hn, bd_s, ↓reduceIte]
theorem ab_6 (h : St_count v = nI n) (hn : n ≤ 8) : f_X5_about v (6:Int32) = some (sI n (wt (St_inside v) (St_taken v)), ()) := by
  simp (decide := true) only [f_X5_about, waiting_n h hn, bd_s, ↓reduceIte]
theorem ab_7 : f_X5_about v (7:Int32) = some (sI 64 (St_debt v), ()) := by
  simp (decide := true) only [f_X5_about, debts_n, bd_s, ↓reduceIte]
/-- the law's own sums -/
theorem sum_row {f : Nat → Int32} {k : Int32} (hn : n ≤ 8) (h : ∀ i, i < n → f_X5_member v (nI i) k = some (f i, ())) : f_L_sum v (nI n) k = some (sI n f, ()) := by
  obtain ⟨e, e1, rfl⟩ := on_get (lp_one (b := b_L_sum_5 v (nI n) k) (fun j s => ∃ i, s = (sI i f, nI i) ∧ i ≤ n ∧ j = n - i) (fun e => e = (sI n f, nI n)) (by
    rintro j s ⟨i, rfl, h1, rfl⟩ J hJ
    by_cases q : i = n
    · subst q
      simp (disch := omega) only [b_L_sum_5, nI_lei, Nat.le_refl, ↓reduceIte]
      rfl
    · have ni : ¬ n ≤ i := by omega
      have next : J (sI (i + 1) f, nI (i + 1)) := hJ _ _ (by omega) ⟨i + 1, rfl, by omega, rfl⟩
      unfold sI at next
      simp (disch := omega) only [b_L_sum_5, nI_lei, ni, h i (by omega), bd_s, lt_e, nI_s1, ↓reduceIte]
      exact next) (n := n) (fu := FU) (s := ((0:Int32), (0:Int32))) ⟨0, rfl, by omega, by omega⟩ (FU_gt (by omega)))
  rw [f_L_sum, e1, bd_s]
theorem owe_n {i j : Nat} (h : St_count v = nI n) (hi : i < n) (hj : j < n) (hij : i ≠ j) (hn : n ≤ 8) : f_X5_owes v (nI i) (nI j) = some (St_debt v (i * 8 + j), ()) := by
  simp (disch := omega) only [f_X5_owes, req2 h hi hj hij hn, f_X3_pair, bd_s, mul8, q_add, gi_ok, nI_clamp]
end ASK
/-- what a good state has of each -/
theorem Ok.cnt {c m q g : Nat} {v : StV} (h : Ok c m q g v) : St_count v = nI c ∧ St_month v = nI m ∧ St_contribution v = nI q ∧ St_given v = nI g ∧ Bo (St_away v) ∧ Bo (St_taken v) ∧ Bo (St_inside v) ∧ c ≤ 7 ∧ m ≤ 99 ∧ 1 ≤ q ∧ q ≤ 20 := by
  obtain ⟨B, P, gu, b, aw, ta, ins, F, O, G, H, S, D, rfl, h⟩ := h
  exact ⟨rfl, rfl, rfl, rfl, h.2.2.2.1, h.2.2.2.2.1, h.2.2.2.2.2.1, h.1.2.2.1, h.1.2.2.2.1, h.1.1, h.1.2.1⟩
theorem cell_ok {xs : Nat → Int32} {L i : Nat} (hL : L ≤ 260) (hi : i ≤ 1000) : ∃ x, f_L_cell xs L (nI i) = some (x, ()) := by
  by_cases h : L ≤ i
  · have e : Int32.ofNat L ≤ nI i := (nI_lei (a := L) (by omega) (by omega)).mpr h
    exact ⟨_, by rw [f_L_cell, if_pos e]⟩
  · have e : ¬ Int32.ofNat L ≤ nI i := fun q => h ((nI_lei (a := L) (by omega) (by omega)).mp q)
    exact ⟨_, by rw [f_L_cell, if_neg e, gi_ok (by omega) (by omega)]⟩
theorem and_nn (v : Int32) : ∃ a, a < 2147483648 ∧ v &&& (2147483647:Int32) = nI a := by
  refine nat_of fun h => ?_
  rw [Int32.lt_iff_toInt_lt] at h
  have m1 : (v &&& (2147483647:Int32)).toBitVec.msb = false := by
    have m2 : (2147483647:Int32).toBitVec.msb = false := by decide
    rw [Int32.toBitVec_and, BitVec.msb_and, m2, Bool.and_false]
  have e : (v &&& (2147483647:Int32)).toInt = ((v &&& (2147483647:Int32)).toBitVec.toNat : Int) := by
    show (v &&& (2147483647:Int32)).toBitVec.toInt = _
    rw [BitVec.toInt_eq_msb_cond, m1]
    rfl
  have z : (0:Int32).toInt = 0 := rfl
  omega
theorem low_ok (x : Int32) {k : Nat} (h1 : 1 ≤ k) (h2 : k ≤ 1000) : ∃ a, a < k ∧ f_L_low x (nI k) = some (nI a, ()) := by
  obtain ⟨a, h3, e⟩ := and_nn x
  have nz : ¬ nI k = 0 := fun q => by have := (nI_inj (b := 0) (by omega) (by omega)).mp q; omega
  exact ⟨a % k, Nat.mod_lt _ (by omega), by rw [f_L_low, gz, if_neg nz, lt_e, e, nI_rem h3 (by omega)]⟩
end
section
/-! all adds up: the chains, the debts, the law's own check -/
def setB (M a : Nat) : Nat := (nI M ||| ((1:Int32) <<< (nI a &&& 31))).toNatClampNeg
def pcn (M : Nat) : Nat := M % 2 + M / 2 % 2 + M / 4 % 2 + M / 8 % 2 + M / 16 % 2 + M / 32 % 2 + M / 64 % 2 + M / 128 % 2
theorem chain_bits : ∀ (M : Fin 256) (a : Fin 8), ((((nI M.1 >>> (nI a.1 &&& 31)) &&& (1:Int32)) = 0) → (nI M.1 ||| ((1:Int32) <<< (nI a.1 &&& 31))) = nI (setB M.1 a.1) ∧ setB M.1 a.1 = M.1 + 2 ^ a.1 ∧ pcn (setB M.1 a.1) = pcn M.1 + 1 ∧ (M.1 + 2 ^ a.1) < 256) := by decide +kernel
theorem chain_two : ∀ (a b : Fin 8), a ≠ b → ((nI (setB 0 a.1) >>> (nI b.1 &&& 31)) &&& (1:Int32)) = 0 := by decide +kernel
theorem chain_one : ∀ (a : Fin 8), ((nI 0 >>> (nI a.1 &&& 31)) &&& (1:Int32)) = 0 ∧ pcn (setB 0 a.1) = 1 := by decide +kernel
theorem chain_up : ∀ (c : Fin 8) (M : Fin 128) (a : Fin 8), M.1 < 2 ^ c.1 → a.1 < c.1 → ((nI M.1 >>> (nI a.1 &&& 31)) &&& (1:Int32)) = 0 → M.1 + 2 ^ a.1 < 2 ^ c.1 := by decide +kernel
theorem pcn_up : ∀ (c : Fin 8) (M : Fin 128), M.1 < 2 ^ c.1 → pcn M.1 ≤ c.1 := by decide +kernel
theorem two_le : ∀ (c : Fin 8), 2 ^ c.1 ≤ 128 := by decide +kernel
section CHAIN
variable {c m q B g : Nat} {P : Nat → Nat} {gu : Nat → Int32} {b : Nat → Nat} {aw ta ins : Nat → Int32} {F O G H S D : Nat → Nat}
theorem chain_n (hc : c ≤ 7) (hg : Gu c gu) {a : Nat} (ha : a < c) : ∃ k, f_X5_chain (nI c, nI m, nI q, nI B, nI g, nf P, gu, nf b, aw, ta, ins, nf F, nf O, nf G, nf H, nf S, nf D) (nI a) = some (nI k, ()) ∧ 1 ≤ k ∧ k ≤ c ∧ (k = 1 ↔ gu a = (-99999:Int32)) := by
  have t128 : 2 ^ c ≤ 128 := two_le ⟨c, by omega⟩
  have lo : One (lp (b_X3_chainLength_7 (nI c, nI m, nI q, nI B, nI g, nf P, gu, nf b, aw, ta, ins, nf F, nf O, nf G, nf H, nf S, nf D)) FU ((0:Int32), (0:Int32), nI a)) (fun e => ∃ k, e.2.1 = nI k ∧ 1 ≤ k ∧ k ≤ c ∧ (k = 1 ↔ gu a = (-99999:Int32))) := by
    refine lp_one (fun n s => ∃ M w, s = (nI M, nI (pcn M), w) ∧ M < 2 ^ c ∧ n = 8 - pcn M ∧ (w = (-99999:Int32) ∨ ∃ g, g < c ∧ w = nI g) ∧ ((M = 0 ∧ w = nI a) ∨ (M = setB 0 a ∧ w = gu a) ∨ (2 ≤ pcn M ∧ ¬ gu a = (-99999:Int32)))) _ ?_ (n := 8) ⟨0, nI a, rfl, Nat.two_pow_pos c, rfl, Or.inr ⟨a, ha, rfl⟩, Or.inl ⟨rfl, rfl⟩⟩ (FU_gt (by omega))
    rintro n s ⟨M, w, rfl, hM, rfl, hw, hph⟩ J hJ
    have hp : pcn M ≤ c := pcn_up ⟨c, by omega⟩ ⟨M, by omega⟩ hM
    have h8 : ¬ 8 ≤ pcn M := by omega
    rcases hw with rfl | ⟨g', hgc, rfl⟩
    · simp (disch := omega) only [b_X3_chainLength_7, le8, h8, ex_no, bd_s, ↓reduceIte]
      rcases hph with ⟨-, q⟩ | ⟨rfl, q⟩ | ⟨q, q2⟩
      · exact absurd q.symm (fun z => (nI_neg (by omega)).mp z)
      · refine ⟨1, ?_, Nat.le_refl _, by omega, fun _ => q.symm, fun _ => rfl⟩
        rw [(chain_one ⟨a, by omega⟩).2]
      · exact ⟨pcn M, rfl, by omega, hp, fun z => by omega, fun z => absurd z q2⟩
    · have hn : ¬ nI g' = (-99999:Int32) := fun q => (nI_neg (by omega)).mp q
      by_cases hz : ((nI M >>> (nI g' &&& 31)) &&& (1:Int32)) = 0
      · obtain ⟨q1, q2, q3, q4⟩ := chain_bits ⟨M, by omega⟩ ⟨g', by omega⟩ hz
        have q1 : (nI M ||| ((1:Int32) <<< (nI g' &&& 31))) = nI (setB M g') := q1
        have q2 : setB M g' = M + 2 ^ g' := q2
        have q3 : pcn (setB M g') = pcn M + 1 := q3
        have q5 : M + 2 ^ g' < 2 ^ c := chain_up ⟨c, by omega⟩ ⟨M, by omega⟩ ⟨g', by omega⟩ hM hgc hz
        simp (disch := omega) only [b_X3_chainLength_7, le8, h8, ex_yes, hn, hz, q1, St_count, St_month, St_contribution, St_box, St_given, St_purse, St_guarantor, St_bid, St_away, St_taken, St_inside, St_paidForItself, St_paidForOthers, St_gotOfPot, St_shares, St_misses, St_debt, St_count_s, St_month_s, St_contribution_s, St_box_s, St_given_s, St_purse_s, St_guarantor_s, St_bid_s, St_away_s, St_taken_s, St_inside_s, St_paidForItself_s, St_paidForOthers_s, St_gotOfPot_s, St_shares_s, St_misses_s, St_debt_s, Rd_paid, Rd_missing, Rd_pence, Rd_paid_s, Rd_missing_s, Rd_pence_s, mul8, lt_e, bd_s, gi_ok, gz2, q_add, nI_s1, nI_clamp, upd_same, nar0, nar1, c0, nf_at, nf_un, o_ne, ↓reduceIte]
        rw [← q3]
        refine hJ _ _ (by rw [q3]; omega) ⟨setB M g', gu g', rfl, by rw [q2]; exact q5, rfl, ?_, ?_⟩
        · rcases hg g' hgc with z | ⟨g2, z1, -, z2⟩
          · exact Or.inl z
          · exact Or.inr ⟨g2, z1, z2⟩
        · rcases hph with ⟨rfl, q⟩ | ⟨rfl, q⟩ | ⟨q, q6⟩
          · have : g' = a := (nI_inj (by omega) (by omega)).mp q
            subst this
            exact Or.inr (Or.inl ⟨rfl, rfl⟩)
          · refine Or.inr (Or.inr ⟨?_, by rw [← q]; exact hn⟩)
            rw [q3, (chain_one ⟨a, by omega⟩).2]
            omega
          · exact Or.inr (Or.inr ⟨by omega, q6⟩)
      · simp (disch := omega) only [b_X3_chainLength_7, le8, h8, ex_yes, hn, hz, bd_s, o_ne, ↓reduceIte]
        rcases hph with ⟨rfl, q⟩ | ⟨rfl, q⟩ | ⟨q, q2⟩
        · exact absurd (chain_one ⟨g', by omega⟩).1 hz
        · have ne : a ≠ g' := by
            rcases hg a ha with z | ⟨g2, z1, z2, z3⟩
            · rw [z] at q; exact absurd q hn
            · have := (nI_inj (by omega) (by omega)).mp (q.trans z3)
              omega
          exact absurd (chain_two ⟨a, by omega⟩ ⟨g', by omega⟩ (fun z => ne (congrArg Fin.val z))) hz
        · exact ⟨pcn M, rfl, by omega, hp, fun z => by omega, fun z => absurd z q2⟩
  obtain ⟨e, e1, k, e2, e3, e4, e5⟩ := on_get lo
  refine ⟨k, ?_, e3, e4, e5⟩
  rw [f_X5_chain, req (n := c) rfl ha (by omega), bd_s, f_X3_chainLength, e1, bd_s, bd_s, e2]
theorem su_cut {n : Nat} {f : Nat → Nat} (h : c ≤ n) (z : ∀ j, c ≤ j → j < n → f j = 0) : su n f = su c f := by
  induction n with
  | zero => rw [show c = 0 by omega]
  | succ n ih =>
    by_cases e : c = n + 1
    · rw [e]
    · rw [su_s, ih (by omega) (fun j h1 h2 => z j h1 (by omega)), z n (by omega) (by omega), Nat.add_zero]
theorem su_eight {n : Nat} {f : Nat → Nat} : su (n + 8) f = su n f + su 8 (fun j => f (n + j)) := by
  simp only [su, Nat.add_zero, Nat.zero_add]
  omega
theorem su_rows {f : Nat → Nat} : ∀ a, su (a * 8) f = su a (fun i => su 8 (fun j => f (i * 8 + j)))
  | 0 => rfl
  | a + 1 => by
    rw [show (a + 1) * 8 = a * 8 + 8 by omega, su_eight, su_rows a]
    rfl
theorem debts_all (hc : c ≤ 7) (hd : Db c D) : su 64 D = su c (fun i => su c (fun j => D (i * 8 + j))) := by
  have z : ∀ i j, i < 8 → j < 8 → (c ≤ i ∨ c ≤ j) → D (i * 8 + j) = 0 := by
    intro i j hi hj h
    by_cases e : D (i * 8 + j) = 0
    · exact e
    · obtain ⟨a, b', h1, h2, -, h3⟩ := hd _ e
      omega
  have e1 : su 64 D = su 8 (fun i => su 8 (fun j => D (i * 8 + j))) := su_rows 8
  rw [e1, su_cut (c := c) (n := 8) (by omega) (fun i h1 h2 => by
    rw [su_ext (f' := fun _ => 0) (fun j hj => z i j h2 hj (Or.inl h1)), su_zero])]
  refine su_ext fun i hi => ?_
  exact su_cut (by omega) (fun j h1 h2 => z i j (by omega) h2 (Or.inr h1))
theorem addUp_W (h : OkW c m q B g P gu b aw ta ins F O G H S D) : f_L_addUp (nI c, nI m, nI q, nI B, nI g, nf P, gu, nf b, aw, ta, ins, nf F, nf O, nf G, nf H, nf S, nf D) (nI c) = some ((1:Int32), ()) := by
  have hP9 := h.P9
  have h0 := h
  obtain ⟨⟨g1, g2, g3, g4, g5⟩, g6, hg, ha, ht, hi, hb, hF, hD, hDb, zP, zgu, zb, za, zt, zi, zF, zO, zG, zH, zS⟩ := h
  have hc : St_count (nI c, nI m, nI q, nI B, nI g, nf P, gu, nf b, aw, ta, ins, nf F, nf O, nf G, nf H, nf S, nf D) = nI c := rfl
  have inn : ∀ i, i < c → ∀ (s : Int32) (t : Nat), lp (b_L_addUp_16 (nI c, nI m, nI q, nI B, nI g, nf P, gu, nf b, aw, ta, ins, nf F, nf O, nf G, nf H, nf S, nf D) (nI c) s (nI i)) FU (nI t, (0:Int32)) = some (nI (t + su c (fun j => D (i * 8 + j))), nI c) := by
    intro i hic s t
    obtain ⟨e, e1, rfl⟩ := on_get (lp_one (b := b_L_addUp_16 (nI c, nI m, nI q, nI B, nI g, nf P, gu, nf b, aw, ta, ins, nf F, nf O, nf G, nf H, nf S, nf D) (nI c) s (nI i)) (fun n z => ∃ k, z = (nI (t + su k (fun j => D (i * 8 + j))), nI k) ∧ k ≤ c ∧ n = c - k) (fun e => e = (nI (t + su c (fun j => D (i * 8 + j))), nI c)) (by
      rintro n z ⟨k, rfl, h1, rfl⟩ J hJ
      by_cases kc : k = c
      · subst kc
        simp (disch := omega) only [b_L_addUp_16, nI_lei, Nat.le_refl, ↓reduceIte]
        rfl
      · have nk : ¬ c ≤ k := by omega
        have next : J (nI (t + su (k + 1) (fun j => D (i * 8 + j))), nI (k + 1)) := hJ _ _ (by omega) ⟨k + 1, rfl, by omega, rfl⟩
        rw [su_s, ← Nat.add_assoc] at next
        by_cases e : i = k
        · subst e
          have z : D (i * 8 + i) = 0 := by
            by_cases q0 : D (i * 8 + i) = 0
            · exact q0
            · obtain ⟨x, y, h1, h2, h3, h4⟩ := hDb _ q0
              omega
          rw [z, Nat.add_zero] at next
          simp (disch := omega) only [b_L_addUp_16, nI_lei, nk, add0, lt_e, nI_s1, ↓reduceIte]
          exact next
        · have ow := owe_n (n := c) hc hic (j := k) (by omega) e (by omega)
          have ow : f_X5_owes (nI c, nI m, nI q, nI B, nI g, nf P, gu, nf b, aw, ta, ins, nf F, nf O, nf G, nf H, nf S, nf D) (nI i) (nI k) = some (nI (D (i * 8 + k)), ()) := ow
          simp (disch := omega) only [b_L_addUp_16, nI_lei, nI_inj, nk, e, ow, bd_s, lt_e, q_add, nI_s1, ↓reduceIte]
          exact next) (n := c) (fu := FU) (s := (nI t, (0:Int32))) ⟨0, rfl, by omega, by omega⟩ (FU_gt (by omega)))
    exact e1
  have outer : One (lp (b_L_addUp_7 (nI c, nI m, nI q, nI B, nI g, nf P, gu, nf b, aw, ta, ins, nf F, nf O, nf G, nf H, nf S, nf D) (nI c)) FU ((0:Int32), (0:Int32), (0:Int32))) (fun e => e = .inl (nI (su c (fun i => su c (fun j => D (i * 8 + j)))), sI c (wt ins ta), nI c)) := by
    refine lp_one (fun n z => ∃ k, z = (nI (su k (fun i => su c (fun j => D (i * 8 + j)))), sI k (wt ins ta), nI k) ∧ k ≤ c ∧ n = c - k) _ ?_ (n := c) ⟨0, rfl, by omega, by omega⟩ (FU_gt (by omega))
    rintro n z ⟨k, rfl, h1, rfl⟩ J hJ
    by_cases kc : k = c
    · subst kc
      simp (disch := omega) only [b_L_addUp_7, nI_lei, Nat.le_refl, ↓reduceIte]
      rfl
    · have nk : ¬ c ≤ k := by omega
      have hk : k < c := by omega
      have next : J (nI (su (k + 1) (fun i => su c (fun j => D (i * 8 + j)))), sI (k + 1) (wt ins ta), nI (k + 1)) := hJ _ _ (by omega) ⟨k + 1, rfl, by omega, rfl⟩
      rw [su_s] at next
      unfold sI at next
      have hw : wt ins ta k = if ins k = 0 then 0 else if ta k = 0 then 1 else 0 := rfl
      have m5 : f_X5_member (nI c, nI m, nI q, nI B, nI g, nf P, gu, nf b, aw, ta, ins, nf F, nf O, nf G, nf H, nf S, nf D) (nI k) (5:Int32) = some (ins k, ()) := mem_5 (n := c) hc hk (by omega) hi
      have m4 : f_X5_member (nI c, nI m, nI q, nI B, nI g, nf P, gu, nf b, aw, ta, ins, nf F, nf O, nf G, nf H, nf S, nf D) (nI k) (4:Int32) = some (ta k, ()) := mem_4 (n := c) hc hk (by omega) ht
      have m1 : f_X5_member (nI c, nI m, nI q, nI B, nI g, nf P, gu, nf b, aw, ta, ins, nf F, nf O, nf G, nf H, nf S, nf D) (nI k) (1:Int32) = some (gu k, ()) := mem_1 (n := c) hc hk (by omega)
      have m0 : f_X5_member (nI c, nI m, nI q, nI B, nI g, nf P, gu, nf b, aw, ta, ins, nf F, nf O, nf G, nf H, nf S, nf D) (nI k) (0:Int32) = some (nI (P k), ()) := mem_0 (n := c) hc hk (by omega)
      obtain ⟨x, c1, c2, c3, c4⟩ := chain_n (m := m) (q := q) (B := B) (g := g) (P := P) (b := b) (aw := aw) (ta := ta) (ins := ins) (F := F) (O := O) (G := G) (H := H) (S := S) (D := D) g3 hg hk
      have p9 := hP9 k
      have x0 : ¬ x < 1 := by omega
      have x1 : ¬ c < x := by omega
      have lt1 : nI x < (1:Int32) ↔ x < 1 := nI_lti (b := 1) (by omega) (by omega)
      by_cases d1 : gu k = (-99999:Int32)
      · have d2 : x = 1 := c4.mpr d1
        have d3 : nI x = (1:Int32) := by rw [d2]; rfl
        have w1 : ¬ (1:Int32) < 1 := by decide
        have w2 : ¬ nI c < (1:Int32) := fun z => by have := (nI_lti (b := 1) (by omega) (by omega)).mp z; omega
        rcases hi k with e1 | e1
        · rw [hw, if_pos e1, add0] at next
          simp (disch := omega) only [b_L_addUp_7, nI_lei, nk, inn k hk, m5, m1, m0, c1, e1, bd_s, z_ne, lt_e, add0, nI_nn, d1, d3, w1, w2, nI_s1, ↓reduceIte]
          exact next
        · rcases ht k with e2 | e2
          · rw [hw, if_neg (by rw [e1]; decide), if_pos e2] at next
            simp (disch := omega) only [b_L_addUp_7, nI_lei, nk, inn k hk, m5, m4, m1, m0, c1, e1, e2, bd_s, lt_e, add0, nI_nn, d1, d3, w1, w2, nI_s1, ↓reduceIte]
            exact next
          · rw [hw, if_neg (by rw [e1]; decide), if_neg (by rw [e2]; decide), add0] at next
            simp (disch := omega) only [b_L_addUp_7, nI_lei, nk, inn k hk, m5, m4, m1, m0, c1, e1, e2, bd_s, o_ne, lt_e, add0, nI_nn, d1, d3, w1, w2, nI_s1, ↓reduceIte]
            exact next
      · have d2 : ¬ x = 1 := fun z => d1 (c4.mp z)
        have d3 : ¬ nI x = (1:Int32) := fun z => d2 ((eq1 (by omega)).mp z)
        rcases hi k with e1 | e1
        · rw [hw, if_pos e1, add0] at next
          simp (disch := omega) only [b_L_addUp_7, nI_lei, nk, inn k hk, m5, m1, m0, c1, e1, bd_s, z_ne, lt_e, add0, nI_nn, lt1, nI_lti, x0, x1, if_neg d1, if_neg d3, nI_s1, ↓reduceIte]
          exact next
        · rcases ht k with e2 | e2
          · rw [hw, if_neg (by rw [e1]; decide), if_pos e2] at next
            simp (disch := omega) only [b_L_addUp_7, nI_lei, nk, inn k hk, m5, m4, m1, m0, c1, e1, e2, bd_s, lt_e, add0, nI_nn, lt1, nI_lti, x0, x1, if_neg d1, if_neg d3, nI_s1, ↓reduceIte]
            exact next
          · rw [hw, if_neg (by rw [e1]; decide), if_neg (by rw [e2]; decide), add0] at next
            simp (disch := omega) only [b_L_addUp_7, nI_lei, nk, inn k hk, m5, m4, m1, m0, c1, e1, e2, bd_s, o_ne, lt_e, add0, nI_nn, lt1, nI_lti, x0, x1, if_neg d1, if_neg d3, nI_s1, ↓reduceIte]
            exact next
  obtain ⟨e, e1, rfl⟩ := on_get outer
  have a4 : f_X5_about (nI c, nI m, nI q, nI B, nI g, nf P, gu, nf b, aw, ta, ins, nf F, nf O, nf G, nf H, nf S, nf D) (4:Int32) = some (nI B, ()) := ab_4
  have a8 : f_X5_about (nI c, nI m, nI q, nI B, nI g, nf P, gu, nf b, aw, ta, ins, nf F, nf O, nf G, nf H, nf S, nf D) (8:Int32) = some (nI g, ()) := ab_8
  have a5 : f_X5_about (nI c, nI m, nI q, nI B, nI g, nf P, gu, nf b, aw, ta, ins, nf F, nf O, nf G, nf H, nf S, nf D) (5:Int32) = some (nI (su c P), ()) := by rw [← sI_nf]; exact ab_5 (n := c) hc (by omega)
  have a1 : f_X5_about (nI c, nI m, nI q, nI B, nI g, nf P, gu, nf b, aw, ta, ins, nf F, nf O, nf G, nf H, nf S, nf D) (1:Int32) = some (sI c ins, ()) := ab_1 (n := c) hc (by omega) hi
  have a6 : f_X5_about (nI c, nI m, nI q, nI B, nI g, nf P, gu, nf b, aw, ta, ins, nf F, nf O, nf G, nf H, nf S, nf D) (6:Int32) = some (sI c (wt ins ta), ()) := ab_6 (n := c) hc (by omega)
  have a7 : f_X5_about (nI c, nI m, nI q, nI B, nI g, nf P, gu, nf b, aw, ta, ins, nf F, nf O, nf G, nf H, nf S, nf D) (7:Int32) = some (nI (su 64 D), ()) := by rw [← sI_nf]; exact ab_7
  have s0 : f_L_sum (nI c, nI m, nI q, nI B, nI g, nf P, gu, nf b, aw, ta, ins, nf F, nf O, nf G, nf H, nf S, nf D) (nI c) (0:Int32) = some (sI c (nf P), ()) := sum_row (by omega) (fun i hi' => mem_0 (n := c) hc hi' (by omega))
  have s5 : f_L_sum (nI c, nI m, nI q, nI B, nI g, nf P, gu, nf b, aw, ta, ins, nf F, nf O, nf G, nf H, nf S, nf D) (nI c) (5:Int32) = some (sI c ins, ()) := sum_row (by omega) (fun i hi' => mem_5 (n := c) hc hi' (by omega) hi)
  rw [sI_nf] at s0
  rw [debts_all g3 hDb] at a7
  simp (disch := omega) only [f_L_addUp, e1, bd_s, el, a4, a5, a8, a1, a6, a7, s0, s5, nI_nn, q_add, g6, ↓reduceIte]
end CHAIN
theorem Ok.addUp {c m q g : Nat} {v : StV} (h : Ok c m q g v) : f_L_addUp v (nI c) = some ((1:Int32), ()) := by
  obtain ⟨B, P, gu, b, aw, ta, ins, F, O, G, H, S, D, rfl, h⟩ := h
  exact addUp_W h
end
section
/-! actions on a good state -/
theorem nf_u0 (f : Nat → Nat) (i : Nat) : upd (nf f) i (0:Int32) = nf (un f i 0) := nf_un f i 0
section ACT
variable {c m q B g : Nat} {P : Nat → Nat} {gu : Nat → Int32} {b : Nat → Nat} {aw ta ins : Nat → Int32} {F O G H S D : Nat → Nat}
variable {p : PaV} {l : List StV}
theorem setC_ok (h : OkW c m q B g P gu b aw ta ins F O G H S D) (tp : Top p l) (hl : l.length ≤ 13) {y : Nat} (y1 : 1 ≤ y) (y2 : y ≤ 20) : ∃ p', f_X5_setContribution (nI c, nI m, nI q, nI B, nI g, nf P, gu, nf b, aw, ta, ins, nf F, nf O, nf G, nf H, nf S, nf D) p (nI y) = some (nI q, ((nI c, nI m, nI y, nI B, nI g, nf P, gu, nf b, aw, ta, ins, nf F, nf O, nf G, nf H, nf S, nf D), p')) ∧ Top p' [] ∧ OkW c m y B g P gu b aw ta ins F O G H S D := by
  have z : Z8 (nI c, nI m, nI q, nI B, nI g, nf P, gu, nf b, aw, ta, ins, nf F, nf O, nf G, nf H, nf S, nf D) := Ok.z ⟨B, P, gu, b, aw, ta, ins, F, O, G, H, S, D, rfl, h⟩
  obtain ⟨p', e, t⟩ := tp.remember hl z
  have n1 : ¬ nI y < (1:Int32) := fun z => by have := (nI_lti (b := 1) (by omega) (by omega)).mp z; omega
  have n2 : nI y ≤ (50:Int32) := (nI_lei (b := 50) (by omega) (by omega)).mpr (by omega)
  refine ⟨p', ?_, t.nil, ?_⟩
  · simp only [f_X5_setContribution, f_X5_requireRange, n1, n2, e, bd_s, lt_e, St_count, St_month, St_contribution, St_box, St_given, St_purse, St_guarantor, St_bid, St_away, St_taken, St_inside, St_paidForItself, St_paidForOthers, St_gotOfPot, St_shares, St_misses, St_debt, St_count_s, St_month_s, St_contribution_s, St_box_s, St_given_s, St_purse_s, St_guarantor_s, St_bid_s, St_away_s, St_taken_s, St_inside_s, St_paidForItself_s, St_paidForOthers_s, St_gotOfPot_s, St_shares_s, St_misses_s, St_debt_s, Rd_paid, Rd_missing, Rd_pence, Rd_paid_s, Rd_missing_s, Rd_pence_s, ↓reduceIte]
  · obtain ⟨⟨g1, g2, g3, g4, g5⟩, h⟩ := h
    exact ⟨⟨y1, y2, g3, g4, g5⟩, h⟩
theorem addM_ok (h : OkW c m q B g P gu b aw ta ins F O G H S D) (tp : Top p l) (hl : l.length ≤ 13) (hc : c ≤ 6) {x : Nat} (hx : x ≤ 999) (hg9 : g + x ≤ 9000) : ∃ v' p', f_X5_addMember (nI c, nI m, nI q, nI B, nI g, nf P, gu, nf b, aw, ta, ins, nf F, nf O, nf G, nf H, nf S, nf D) p (nI x) = some (nI c, (v', p')) ∧ Ok (c + 1) m q (g + x) v' ∧ Top p' [] ∧ St_purse v' c = nI x ∧ St_guarantor v' c = (-99999:Int32) ∧ St_inside v' c = 1 ∧ (∀ j, c < j → St_guarantor v' j = 0) ∧ (∀ j, j < c → St_guarantor v' j = gu j) ∧ (∀ j, nf b j = 0 → St_bid v' j = 0) := by
  have z : Z8 (nI c, nI m, nI q, nI B, nI g, nf P, gu, nf b, aw, ta, ins, nf F, nf O, nf G, nf H, nf S, nf D) := Ok.z ⟨B, P, gu, b, aw, ta, ins, F, O, G, H, S, D, rfl, h⟩
  obtain ⟨p', e, t⟩ := tp.remember hl z
  obtain ⟨⟨g1, g2, g3, g4, g5⟩, g6, hg, ha, ht, hi, hb, hF, hD, hDb, zP, zgu, zb, za, zt, zi, zF, zO, zG, zH, zS⟩ := h
  have n1 : ¬ nI x < (0:Int32) := fun z => (nI_nn (by omega)).mp z
  have n2 : nI x ≤ (999:Int32) := (nI_lei (b := 999) (by omega) (by omega)).mpr (by omega)
  have n3 : nI c < (8:Int32) := (nI_lti (b := 8) (by omega) (by omega)).mpr (by omega)
  refine ⟨(nI (c + 1), nI m, nI q, nI B, nI (g + x), nf (un P c x), upd gu c (-99999:Int32), nf (un b c 0), upd aw c 0, upd ta c 0, upd ins c 1, nf (un F c 0), nf (un O c 0), nf (un G c 0), nf (un H c 0), nf (un S c 0), nf D), p', ?_, ⟨B, _, _, _, _, _, _, _, _, _, _, _, D, rfl, ?_⟩, t.nil, ?_, upd_same _ _ _, upd_same _ _ _, fun j hj => ?_, fun j hj => ?_, fun j hj => ?_⟩
  · simp (disch := omega) only [f_X5_addMember, f_X5_requireRange, f_X3_join, n1, n2, n3, e, St_count, St_month, St_contribution, St_box, St_given, St_purse, St_guarantor, St_bid, St_away, St_taken, St_inside, St_paidForItself, St_paidForOthers, St_gotOfPot, St_shares, St_misses, St_debt, St_count_s, St_month_s, St_contribution_s, St_box_s, St_given_s, St_purse_s, St_guarantor_s, St_bid_s, St_away_s, St_taken_s, St_inside_s, St_paidForItself_s, St_paidForOthers_s, St_gotOfPot_s, St_shares_s, St_misses_s, St_debt_s, Rd_paid, Rd_missing, Rd_pence, Rd_paid_s, Rd_missing_s, Rd_pence_s, mul8, lt_e, bd_s, gi_ok, gz2, q_add, nI_s1, nI_clamp, upd_same, nar0, nar1, c0, nf_at, nf_un, nf_u0, ↓reduceIte]
  · have zz : ∀ {f : Nat → Nat} {y : Nat}, Zn c f → Zn (c + 1) (un f c y) := fun {f y} h => Zn.un (Zn.up h (by omega)) (by omega)
    have zy : ∀ {f : Nat → Int32} {y : Int32}, Zi c f → Zi (c + 1) (upd f c y) := fun {f y} h => Zi.upd (Zi.up h (by omega)) (by omega)
    refine ⟨⟨g1, g2, by omega, g4, hg9⟩, ?_, fun i hi' => ?_, ha.upd (Or.inl rfl), ht.upd (Or.inl rfl), hi.upd (Or.inr rfl), fun j => ?_, fun j => ?_, hD, fun k hk => ?_, zz zP, zy zgu, zz zb, zy za, zy zt, zy zi, zz zF, zz zO, zz zG, zz zH, zz zS⟩
    · rw [su_s, un_same, su_out (Nat.le_refl _)]; omega
    · by_cases e : i = c
      · subst e; rw [upd_same]; exact Or.inl rfl
      · rw [upd_ne e]
        rcases hg i (by omega) with q | ⟨g', q1, q2, q3⟩
        · exact Or.inl q
        · exact Or.inr ⟨g', by omega, q2, q3⟩
    · by_cases e : j = c
      · subst e; rw [un_same]; omega
      · rw [un_ne e]; exact hb j
    · by_cases e : j = c
      · subst e; rw [un_same]; omega
      · rw [un_ne e]; exact hF j
    · obtain ⟨i, j, q1, q2, q3, q4⟩ := hDb k hk
      exact ⟨i, j, by omega, by omega, q3, q4⟩
  · show nf (un P c x) c = nI x
    rw [nf_at, un_same]
  · show upd gu c (-99999:Int32) j = 0
    rw [upd_ne (by omega)]; exact zgu j (by omega)
  · show upd gu c (-99999:Int32) j = gu j
    rw [upd_ne (by omega)]
  · show nf (un b c 0) j = 0
    by_cases e : j = c
    · subst e; rw [nf_at, un_same]; rfl
    · rw [nf_at, un_ne e]; exact hj
theorem setG_ok (h : OkW c m q B g P gu b aw ta ins F O G H S D) (tp : Top p l) (hl : l.length ≤ 13) {i o : Nat} (hi : i < c) (ho : o < c) (hio : i ≠ o) : ∃ p', f_X5_setGuarantor (nI c, nI m, nI q, nI B, nI g, nf P, gu, nf b, aw, ta, ins, nf F, nf O, nf G, nf H, nf S, nf D) p (nI i) (nI o) = some (gu i, ((nI c, nI m, nI q, nI B, nI g, nf P, upd gu i (nI o), nf b, aw, ta, ins, nf F, nf O, nf G, nf H, nf S, nf D), p')) ∧ Top p' [] ∧ OkW c m q B g P (upd gu i (nI o)) b aw ta ins F O G H S D := by
  have z : Z8 (nI c, nI m, nI q, nI B, nI g, nf P, gu, nf b, aw, ta, ins, nf F, nf O, nf G, nf H, nf S, nf D) := Ok.z ⟨B, P, gu, b, aw, ta, ins, F, O, G, H, S, D, rfl, h⟩
  obtain ⟨p', e, t⟩ := tp.remember hl z
  have hc : St_count (nI c, nI m, nI q, nI B, nI g, nf P, gu, nf b, aw, ta, ins, nf F, nf O, nf G, nf H, nf S, nf D) = nI c := rfl
  obtain ⟨⟨g1, g2, g3, g4, g5⟩, g6, hg, ha, ht, hi', hb, hF, hD, hDb, zP, zgu, zr⟩ := h
  have n1 : ¬ nI o = (-99999:Int32) := fun z => (nI_neg (by omega)).mp z
  refine ⟨p', ?_, t.nil, ⟨g1, g2, g3, g4, g5⟩, g6, fun j hj => ?_, ha, ht, hi', hb, hF, hD, hDb, zP, zgu.upd hi, zr⟩
  · simp (disch := omega) only [f_X5_setGuarantor, if_neg n1, req2 (n := c) hc hi ho hio (by omega), e, bd_s, gi_ok, lt_e, St_count, St_month, St_contribution, St_box, St_given, St_purse, St_guarantor, St_bid, St_away, St_taken, St_inside, St_paidForItself, St_paidForOthers, St_gotOfPot, St_shares, St_misses, St_debt, St_count_s, St_month_s, St_contribution_s, St_box_s, St_given_s, St_purse_s, St_guarantor_s, St_bid_s, St_away_s, St_taken_s, St_inside_s, St_paidForItself_s, St_paidForOthers_s, St_gotOfPot_s, St_shares_s, St_misses_s, St_debt_s, Rd_paid, Rd_missing, Rd_pence, Rd_paid_s, Rd_missing_s, Rd_pence_s, nI_clamp]
  · by_cases e : j = i
    · subst e; rw [upd_same]; exact Or.inr ⟨o, ho, fun q => hio q.symm, rfl⟩
    · rw [upd_ne e]; exact hg j hj
theorem bid_ok (h : OkW c m q B g P gu b aw ta ins F O G H S D) (tp : Top p l) (hl : l.length ≤ 13) {i n : Nat} (hi : i < c) (hn : n ≤ 999) (h1 : ins i = 1) (h2 : ta i = 0) : ∃ p', f_X5_bid (nI c, nI m, nI q, nI B, nI g, nf P, gu, nf b, aw, ta, ins, nf F, nf O, nf G, nf H, nf S, nf D) p (nI i) (nI n) = some (nI (b i), ((nI c, nI m, nI q, nI B, nI g, nf P, gu, nf (un b i n), aw, ta, ins, nf F, nf O, nf G, nf H, nf S, nf D), p')) ∧ Top p' ((nI c, nI m, nI q, nI B, nI g, nf P, gu, nf b, aw, ta, ins, nf F, nf O, nf G, nf H, nf S, nf D) :: l) ∧ OkW c m q B g P gu (un b i n) aw ta ins F O G H S D := by
  have z : Z8 (nI c, nI m, nI q, nI B, nI g, nf P, gu, nf b, aw, ta, ins, nf F, nf O, nf G, nf H, nf S, nf D) := Ok.z ⟨B, P, gu, b, aw, ta, ins, F, O, G, H, S, D, rfl, h⟩
  obtain ⟨p', e, t⟩ := tp.remember hl z
  have hc : St_count (nI c, nI m, nI q, nI B, nI g, nf P, gu, nf b, aw, ta, ins, nf F, nf O, nf G, nf H, nf S, nf D) = nI c := rfl
  obtain ⟨⟨g1, g2, g3, g4, g5⟩, g6, hg, ha, ht, hi', hb, hF, hD, hDb, zP, zgu, zb, zr⟩ := h
  have n1 : ¬ nI n < (0:Int32) := fun z => (nI_nn (by omega)).mp z
  have n2 : nI n ≤ (999:Int32) := (nI_lei (b := 999) (by omega) (by omega)).mpr (by omega)
  refine ⟨p', ?_, t, ⟨g1, g2, g3, g4, g5⟩, g6, hg, ha, ht, hi', fun j => ?_, hF, hD, hDb, zP, zgu, zb.un hi, zr⟩
  · simp (disch := omega) only [f_X5_bid, f_X5_requireRange, f_X3_mayBid, req (n := c) hc hi (by omega), n1, n2, h1, h2, e, St_count, St_month, St_contribution, St_box, St_given, St_purse, St_guarantor, St_bid, St_away, St_taken, St_inside, St_paidForItself, St_paidForOthers, St_gotOfPot, St_shares, St_misses, St_debt, St_count_s, St_month_s, St_contribution_s, St_box_s, St_given_s, St_purse_s, St_guarantor_s, St_bid_s, St_away_s, St_taken_s, St_inside_s, St_paidForItself_s, St_paidForOthers_s, St_gotOfPot_s, St_shares_s, St_misses_s, St_debt_s, Rd_paid, Rd_missing, Rd_pence, Rd_paid_s, Rd_missing_s, Rd_pence_s, mul8, lt_e, bd_s, gi_ok, gz2, q_add, nI_s1, nI_clamp, upd_same, nar0, nar1, c0, nf_at, nf_un, o_ne, ↓reduceIte]
  · by_cases e : j = i
    · subst e; rw [un_same]; exact hn
    · rw [un_ne e]; exact hb j
theorem away_ok (h : OkW c m q B g P gu b aw ta ins F O G H S D) (tp : Top p l) (hl : l.length ≤ 13) {i : Nat} (hi : i < c) (h1 : aw i = 0) : ∃ p', f_X5_stayAway (nI c, nI m, nI q, nI B, nI g, nf P, gu, nf b, aw, ta, ins, nf F, nf O, nf G, nf H, nf S, nf D) p (nI i) (1:Int32) = some ((0:Int32), ((nI c, nI m, nI q, nI B, nI g, nf P, gu, nf b, upd aw i 1, ta, ins, nf F, nf O, nf G, nf H, nf S, nf D), p')) ∧ Top p' [] ∧ OkW c m q B g P gu b (upd aw i 1) ta ins F O G H S D := by
  have z : Z8 (nI c, nI m, nI q, nI B, nI g, nf P, gu, nf b, aw, ta, ins, nf F, nf O, nf G, nf H, nf S, nf D) := Ok.z ⟨B, P, gu, b, aw, ta, ins, F, O, G, H, S, D, rfl, h⟩
  obtain ⟨p', e, t⟩ := tp.remember hl z
  have hc : St_count (nI c, nI m, nI q, nI B, nI g, nf P, gu, nf b, aw, ta, ins, nf F, nf O, nf G, nf H, nf S, nf D) = nI c := rfl
  obtain ⟨⟨g1, g2, g3, g4, g5⟩, g6, hg, ha, ht, hi', hb, hF, hD, hDb, zP, zgu, zb, za, zr⟩ := h
  have gb0 : ∀ {B : Type} {k : Option B}, gb (0:Int32) k = k := fun {B k} => if_pos rfl
  refine ⟨p', ?_, t.nil, ⟨g1, g2, g3, g4, g5⟩, g6, hg, ha.upd (Or.inr rfl), ht, hi', hb, hF, hD, hDb, zP, zgu, zb, za.upd hi, zr⟩
  simp (disch := omega) only [f_X5_stayAway, req (n := c) hc hi (by omega), h1, e, St_count, St_month, St_contribution, St_box, St_given, St_purse, St_guarantor, St_bid, St_away, St_taken, St_inside, St_paidForItself, St_paidForOthers, St_gotOfPot, St_shares, St_misses, St_debt, St_count_s, St_month_s, St_contribution_s, St_box_s, St_given_s, St_purse_s, St_guarantor_s, St_bid_s, St_away_s, St_taken_s, St_inside_s, St_paidForItself_s, St_paidForOthers_s, St_gotOfPot_s, St_shares_s, St_misses_s, St_debt_s, Rd_paid, Rd_missing, Rd_pence, Rd_paid_s, Rd_missing_s, Rd_pence_s, mul8, lt_e, bd_s, gi_ok, gz2, q_add, nI_s1, nI_clamp, upd_same, nar0, nar1, c0, nf_at, nf_un, gb0]
theorem give_ok (h : OkW c m q B g P gu b aw ta ins F O G H S D) (tp : Top p l) (hl : l.length ≤ 13) {i n : Nat} (hi : i < c) (n1 : 1 ≤ n) (n2 : n ≤ 999) (hg9 : g + n ≤ 9000) : ∃ p', f_X5_give (nI c, nI m, nI q, nI B, nI g, nf P, gu, nf b, aw, ta, ins, nf F, nf O, nf G, nf H, nf S, nf D) p (nI i) (nI n) = some (nI (P i + n), ((nI c, nI m, nI q, nI B, nI (g + n), nf (un P i (P i + n)), gu, nf b, aw, ta, ins, nf F, nf O, nf G, nf H, nf S, nf D), p')) ∧ Top p' [] ∧ OkW c m q B (g + n) (un P i (P i + n)) gu b aw ta ins F O G H S D := by
  have z : Z8 (nI c, nI m, nI q, nI B, nI g, nf P, gu, nf b, aw, ta, ins, nf F, nf O, nf G, nf H, nf S, nf D) := Ok.z ⟨B, P, gu, b, aw, ta, ins, F, O, G, H, S, D, rfl, h⟩
  obtain ⟨p', e, t⟩ := tp.remember hl z
  have hc : St_count (nI c, nI m, nI q, nI B, nI g, nf P, gu, nf b, aw, ta, ins, nf F, nf O, nf G, nf H, nf S, nf D) = nI c := rfl
  obtain ⟨⟨g1, g2, g3, g4, g5⟩, g6, hg, ha, ht, hi', hb, hF, hD, hDb, zP, zr⟩ := h
  have k1 : ¬ nI n < (1:Int32) := fun z => by have := (nI_lti (b := 1) (by omega) (by omega)).mp z; omega
  have k2 : nI n ≤ (999:Int32) := (nI_lei (b := 999) (by omega) (by omega)).mpr (by omega)
  have k3 : ¬ (9000:Int32) < nI (g + n) := fun z => by have := (nI_lti (a := 9000) (by omega) (by omega)).mp z; omega
  have s1 := su_un (x := P i + n) (f := P) hi
  refine ⟨p', ?_, t.nil, ⟨g1, g2, g3, g4, hg9⟩, by omega, hg, ha, ht, hi', hb, hF, hD, hDb, zP.un hi, zr⟩
  simp (disch := omega) only [f_X5_give, f_X5_requireRange, f_X3_mayReceive, f_X3_receive, req (n := c) hc hi (by omega), k1, k2, k3, e, St_count, St_month, St_contribution, St_box, St_given, St_purse, St_guarantor, St_bid, St_away, St_taken, St_inside, St_paidForItself, St_paidForOthers, St_gotOfPot, St_shares, St_misses, St_debt, St_count_s, St_month_s, St_contribution_s, St_box_s, St_given_s, St_purse_s, St_guarantor_s, St_bid_s, St_away_s, St_taken_s, St_inside_s, St_paidForItself_s, St_paidForOthers_s, St_gotOfPot_s, St_shares_s, St_misses_s, St_debt_s, Rd_paid, Rd_missing, Rd_pence, Rd_paid_s, Rd_missing_s, Rd_pence_s, mul8, lt_e, bd_s, gi_ok, gz2, q_add, nI_s1, nI_clamp, upd_same, nar0, nar1, c0, nf_at, nf_un, un_same, o_ne, ↓reduceIte]
theorem repay_ok (h : OkW c m q B g P gu b aw ta ins F O G H S D) (tp : Top p l) (hl : l.length ≤ 13) {i j : Nat} (hi : i < c) (hj : j < c) (hij : i ≠ j) : ∃ x p', x ≤ P i ∧ x ≤ D (i * 8 + j) ∧ x = (if P i < D (i * 8 + j) then P i else D (i * 8 + j)) ∧ f_X5_repay (nI c, nI m, nI q, nI B, nI g, nf P, gu, nf b, aw, ta, ins, nf F, nf O, nf G, nf H, nf S, nf D) p (nI i) (nI j) = some (nI x, ((nI c, nI m, nI q, nI B, nI g, nf (un (un P j (P j + x)) i (P i - x)), gu, nf b, aw, ta, ins, nf F, nf O, nf G, nf H, nf S, nf (un D (i * 8 + j) (D (i * 8 + j) - x))), p')) ∧ Top p' [] ∧ OkW c m q B g (un (un P j (P j + x)) i (P i - x)) gu b aw ta ins F O G H S (un D (i * 8 + j) (D (i * 8 + j) - x)) := by
  have hP9 := h.P9 i
  have z : Z8 (nI c, nI m, nI q, nI B, nI g, nf P, gu, nf b, aw, ta, ins, nf F, nf O, nf G, nf H, nf S, nf D) := Ok.z ⟨B, P, gu, b, aw, ta, ins, F, O, G, H, S, D, rfl, h⟩
  obtain ⟨p', e, t⟩ := tp.remember hl z
  have hc : St_count (nI c, nI m, nI q, nI B, nI g, nf P, gu, nf b, aw, ta, ins, nf F, nf O, nf G, nf H, nf S, nf D) = nI c := rfl
  obtain ⟨⟨g1, g2, g3, g4, g5⟩, g6, hg, ha, ht, hi', hb, hF, hD, hDb, zP, zr⟩ := h
  obtain ⟨x, x1, x2, x3, e2⟩ := settle_w (c := c) (m := m) (q := q) (B := B) (g := g) (P := P) (gu := gu) (b := b) (aw := aw) (ta := ta) (ins := ins) (F := F) (O := O) (G := G) (H := H) (S := S) (D := D) (w := i) (j := j) (r := P i) (by omega) (by omega) (by omega) (fun k => by have := hD k; omega)
  have un1 : un P j (P j + x) i = P i := un_ne hij
  have s1 := su_un (x := P j + x) (f := P) hj
  have s2 := su_un (x := P i - x) (f := un P j (P j + x)) hi
  refine ⟨x, p', x1, x2, x3, ?_, t.nil, ⟨g1, g2, g3, g4, g5⟩, by omega, hg, ha, ht, hi', hb, hF, fun k => ?_, fun k hk => ?_, (zP.un hj).un hi, zr⟩
  · simp (disch := omega) only [f_X5_repay, req2 (n := c) hc hi hj hij (by omega), e, bd_s, gi_ok, St_count, St_month, St_contribution, St_box, St_given, St_purse, St_guarantor, St_bid, St_away, St_taken, St_inside, St_paidForItself, St_paidForOthers, St_gotOfPot, St_shares, St_misses, St_debt, St_count_s, St_month_s, St_contribution_s, St_box_s, St_given_s, St_purse_s, St_guarantor_s, St_bid_s, St_away_s, St_taken_s, St_inside_s, St_paidForItself_s, St_paidForOthers_s, St_gotOfPot_s, St_shares_s, St_misses_s, St_debt_s, Rd_paid, Rd_missing, Rd_pence, Rd_paid_s, Rd_missing_s, Rd_pence_s, nI_clamp, nf_at, e2, lt_e, un1, nI_sub, nf_un]
  · by_cases q : k = i * 8 + j
    · subst q; rw [un_same]; have := hD (i * 8 + j); omega
    · rw [un_ne q]; exact hD k
  · by_cases q : k = i * 8 + j
    · exact ⟨i, j, hi, hj, hij, q⟩
    · rw [un_ne q] at hk; exact hDb k hk
end ACT
end
section
/-! leaving -/
theorem nI_subneg {a b : Nat} (h : a < b) (hb : b < 1000000000) : nI a - nI b < (0:Int32) := pk_sneg (by omega) h
theorem neg_mul_nI (a b : Nat) : (-nI a) * nI b = -(nI (a * b)) := by rw [Int32.neg_mul, q_mul]
theorem add_neg_nI (a b : Nat) : nI a + -(nI b) = nI a - nI b := (Int32.sub_eq_add_neg _ _).symm
theorem sub_neg_nI (a b : Nat) : nI a - -(nI b) = nI (a + b) := by rw [Int32.sub_eq_add_neg, Int32.neg_neg, q_add]
section GO
variable {c m q B g : Nat} {P : Nat → Nat} {gu : Nat → Int32} {b : Nat → Nat} {aw ta ins : Nat → Int32} {F O G H S D : Nat → Nat}
variable {p : PaV} {l : List StV}
theorem leave_ok (h : OkW c m q B g P gu b aw ta ins F O G H S D) (tp : Top p l) (hl : l.length ≤ 13) {i : Nat} (hi : i < c) : ∃ v' p', f_L_leave (nI c, nI m, nI q, nI B, nI g, nf P, gu, nf b, aw, ta, ins, nf F, nf O, nf G, nf H, nf S, nf D) p (nI i) = some ((1:Int32), (v', p')) ∧ Top p' [] ∧ Ok c m q g v' ∧ (PB c (nI c, nI m, nI q, nI B, nI g, nf P, gu, nf b, aw, ta, ins, nf F, nf O, nf G, nf H, nf S, nf D) → PB c v') := by
  have hP9 := h.P9 i
  have h0 := h
  have z : Z8 (nI c, nI m, nI q, nI B, nI g, nf P, gu, nf b, aw, ta, ins, nf F, nf O, nf G, nf H, nf S, nf D) := Ok.z ⟨B, P, gu, b, aw, ta, ins, F, O, G, H, S, D, rfl, h⟩
  obtain ⟨p', e, t⟩ := tp.remember hl z
  obtain ⟨⟨g1, g2, g3, g4, g5⟩, g6, hg, ha, ht, hi', hb, hF, hD, hDb, zP, zgu, zb, za, zt, zi, zr⟩ := h
  have hc : ∀ {B' : Nat} {P' : Nat → Nat} {in' : Nat → Int32}, St_count (nI c, nI m, nI q, nI B', nI g, nf P', gu, nf b, aw, ta, in', nf F, nf O, nf G, nf H, nf S, nf D) = nI c := fun {_ _ _} => rfl
  have bi : Bo (upd ins i 0) := hi'.upd (Or.inl rfl)
  have hF1 := hF i
  have sP := su_ge (f := P) hi
  have m4 : f_X5_member (nI c, nI m, nI q, nI B, nI g, nf P, gu, nf b, aw, ta, ins, nf F, nf O, nf G, nf H, nf S, nf D) (nI i) (4:Int32) = some (ta i, ()) := mem_4 (n := c) hc hi (by omega) ht
  have m5 : f_X5_member (nI c, nI m, nI q, nI B, nI g, nf P, gu, nf b, aw, ta, ins, nf F, nf O, nf G, nf H, nf S, nf D) (nI i) (5:Int32) = some (ins i, ()) := mem_5 (n := c) hc hi (by omega) hi'
  have m6 : f_X5_member (nI c, nI m, nI q, nI B, nI g, nf P, gu, nf b, aw, ta, ins, nf F, nf O, nf G, nf H, nf S, nf D) (nI i) (6:Int32) = some (nI (F i), ()) := mem_6 (n := c) hc hi (by omega)
  have m0 : f_X5_member (nI c, nI m, nI q, nI B, nI g, nf P, gu, nf b, aw, ta, ins, nf F, nf O, nf G, nf H, nf S, nf D) (nI i) (0:Int32) = some (nI (P i), ()) := mem_0 (n := c) hc hi (by omega)
  have a3 : f_X5_about (nI c, nI m, nI q, nI B, nI g, nf P, gu, nf b, aw, ta, ins, nf F, nf O, nf G, nf H, nf S, nf D) (3:Int32) = some (nI q, ()) := ab_3
  have a4 : f_X5_about (nI c, nI m, nI q, nI B, nI g, nf P, gu, nf b, aw, ta, ins, nf F, nf O, nf G, nf H, nf S, nf D) (4:Int32) = some (nI B, ()) := ab_4
  have f2 : nI (F i) / (2:Int32) = nI (F i / 2) := nI_div (b := 2) (by omega) (by omega)
  obtain ⟨w, w1, w2, -, -⟩ := sI_bo (wt_bo ins ta) c
  have a6 : f_X5_about (nI c, nI m, nI q, nI B, nI g, nf P, gu, nf b, aw, ta, ins, nf F, nf O, nf G, nf H, nf S, nf D) (6:Int32) = some (nI w, ()) := by rw [← w2]; exact ab_6 (n := c) hc (by omega)
  have wn : f_X3_countWaiting (nI c, nI m, nI q, nI B, nI g, nf P, gu, nf b, aw, ta, ins, nf F, nf O, nf G, nf H, nf S, nf D) = some (nI w, ()) := by rw [← w2]; exact waiting_n (n := c) hc (by omega)
  have self : ∃ v' p', some ((1:Int32), ((nI c, nI m, nI q, nI B, nI g, nf P, gu, nf b, aw, ta, ins, nf F, nf O, nf G, nf H, nf S, nf D), p)) = some ((1:Int32), ((v' : StV), (p' : PaV))) ∧ Top p' [] ∧ Ok c m q g v' ∧ (PB c (nI c, nI m, nI q, nI B, nI g, nf P, gu, nf b, aw, ta, ins, nf F, nf O, nf G, nf H, nf S, nf D) → PB c v') := ⟨_, _, rfl, tp.nil, ⟨B, P, gu, b, aw, ta, ins, F, O, G, H, S, D, rfl, h0⟩, id⟩
  have e8 : ∀ {β : Type} {k : Option β}, gi (nI i) 8 k = k := fun {β k} => gi_ok (by omega) (by omega)
  -- what it answers behind the going
  have n0 : ∀ {B' : Nat} {x : Nat}, f_X5_member (nI c, nI m, nI q, nI B', nI g, nf (un P i x), gu, nf b, aw, ta, upd ins i 0, nf F, nf O, nf G, nf H, nf S, nf D) (nI i) (0:Int32) = some (nI x, ()) := fun {B' x} => (mem_0 (n := c) hc hi (by omega)).trans (by show some (nf (un P i x) i, ()) = _; rw [nf_at, un_same])
  have n5 : ∀ {B' : Nat} {x : Nat}, f_X5_member (nI c, nI m, nI q, nI B', nI g, nf (un P i x), gu, nf b, aw, ta, upd ins i 0, nf F, nf O, nf G, nf H, nf S, nf D) (nI i) (5:Int32) = some ((0:Int32), ()) := fun {B' x} => (mem_5 (n := c) hc hi (by omega) bi).trans (by show some (upd ins i 0 i, ()) = _; rw [upd_same])
  have n4 : ∀ {B' : Nat} {x : Nat}, f_X5_about (nI c, nI m, nI q, nI B', nI g, nf (un P i x), gu, nf b, aw, ta, upd ins i 0, nf F, nf O, nf G, nf H, nf S, nf D) (4:Int32) = some (nI B', ()) := fun {B' x} => ab_4
  have good : ∀ {B' x : Nat}, B' + x = B + P i → Ok c m q g (nI c, nI m, nI q, nI B', nI g, nf (un P i x), gu, nf b, aw, ta, upd ins i 0, nf F, nf O, nf G, nf H, nf S, nf D) := fun {B' x} hB => by
    have s1 := su_un (x := x) (f := P) hi
    exact ⟨B', _, gu, b, aw, ta, _, F, O, G, H, S, D, rfl, ⟨g1, g2, g3, g4, g5⟩, by omega, hg, ha, ht, bi, hb, hF, hD, hDb, zP.un hi, zgu, zb, za, zt, zi.upd hi, zr⟩
  have pb : ∀ {B' x : Nat}, PB c (nI c, nI m, nI q, nI B, nI g, nf P, gu, nf b, aw, ta, ins, nf F, nf O, nf G, nf H, nf S, nf D) → PB c (nI c, nI m, nI q, nI B', nI g, nf (un P i x), gu, nf b, aw, ta, upd ins i 0, nf F, nf O, nf G, nf H, nf S, nf D) := fun {B' x} hp j hj h1 h2 => by
    refine hp j hj ?_ h2
    have h1 : upd ins i 0 j = 1 := h1
    by_cases e : j = i
    · subst e; rw [upd_same] at h1; exact absurd h1 (by decide)
    · rw [upd_ne e] at h1; exact h1
  rcases ht i with e1 | e1
  · -- has not taken the pot: half of what it paid, as far as the box has it
    rcases hi' i with e2 | e2
    · by_cases q1 : B ≤ F i / 2
      · simp (disch := omega) only [f_L_leave, m4, m5, m6, m0, a4, e1, e2, z_ne, gz2, f2, lt_e, nI_lei, q1, bd_s, ↓reduceIte]
        exact self
      · simp (disch := omega) only [f_L_leave, m4, m5, m6, m0, a4, e1, e2, z_ne, gz2, f2, lt_e, nI_lei, q1, bd_s, ↓reduceIte]
        exact self
    · have step : ∀ x, x = (if B < F i / 2 then B else F i / 2) → f_X5_leave (nI c, nI m, nI q, nI B, nI g, nf P, gu, nf b, aw, ta, ins, nf F, nf O, nf G, nf H, nf S, nf D) p (nI i) = some (nI x, ((nI c, nI m, nI q, nI (B - x), nI g, nf (un P i (P i + x)), gu, nf b, aw, ta, upd ins i 0, nf F, nf O, nf G, nf H, nf S, nf D), p')) := by
        intro x hx
        have xB : x ≤ B := by rw [hx]; split <;> omega
        have hx' : (if nI B < nI (F i / 2) then nI B else nI (F i / 2)) = nI x := by
          rw [hx]
          by_cases q : B < F i / 2
          · rw [if_pos q, if_pos ((nI_lti (by omega) (by omega)).mpr q)]
          · rw [if_neg q, if_neg (fun z => q ((nI_lti (by omega) (by omega)).mp z))]
        have gn : f_X3_gainOfGoing (nI c, nI m, nI q, nI B, nI g, nf P, gu, nf b, aw, ta, ins, nf F, nf O, nf G, nf H, nf S, nf D) (nI i) = some (nI x, ()) := by
          simp only [f_X3_gainOfGoing, e8, St_count, St_month, St_contribution, St_box, St_given, St_purse, St_guarantor, St_bid, St_away, St_taken, St_inside, St_paidForItself, St_paidForOthers, St_gotOfPot, St_shares, St_misses, St_debt, St_count_s, St_month_s, St_contribution_s, St_box_s, St_given_s, St_purse_s, St_guarantor_s, St_bid_s, St_away_s, St_taken_s, St_inside_s, St_paidForItself_s, St_paidForOthers_s, St_gotOfPot_s, St_shares_s, St_misses_s, St_debt_s, Rd_paid, Rd_missing, Rd_pence, Rd_paid_s, Rd_missing_s, Rd_pence_s, nI_clamp (show i < 2147483648 by omega), e1, gz2, lt_e, nf_at, f2, hx', ↓reduceIte]
        have mg : f_X3_mayGo (nI c, nI m, nI q, nI B, nI g, nf P, gu, nf b, aw, ta, ins, nf F, nf O, nf G, nf H, nf S, nf D) (nI i) = some ((1:Int32), ()) := by
          simp (disch := omega) only [f_X3_mayGo, e8, St_count, St_month, St_contribution, St_box, St_given, St_purse, St_guarantor, St_bid, St_away, St_taken, St_inside, St_paidForItself, St_paidForOthers, St_gotOfPot, St_shares, St_misses, St_debt, St_count_s, St_month_s, St_contribution_s, St_box_s, St_given_s, St_purse_s, St_guarantor_s, St_bid_s, St_away_s, St_taken_s, St_inside_s, St_paidForItself_s, St_paidForOthers_s, St_gotOfPot_s, St_shares_s, St_misses_s, St_debt_s, Rd_paid, Rd_missing, Rd_pence, Rd_paid_s, Rd_missing_s, Rd_pence_s, nI_clamp, e2, gn, bd_s, nf_at, q_add, nI_nn, o_ne, ↓reduceIte]
        have go : f_X3_go (nI c, nI m, nI q, nI B, nI g, nf P, gu, nf b, aw, ta, ins, nf F, nf O, nf G, nf H, nf S, nf D) (nI i) = some (nI x, (nI c, nI m, nI q, nI (B - x), nI g, nf (un P i (P i + x)), gu, nf b, aw, ta, upd ins i 0, nf F, nf O, nf G, nf H, nf S, nf D)) := by
          simp (disch := omega) only [f_X3_go, gn, bd_s, e8, lt_e, St_count, St_month, St_contribution, St_box, St_given, St_purse, St_guarantor, St_bid, St_away, St_taken, St_inside, St_paidForItself, St_paidForOthers, St_gotOfPot, St_shares, St_misses, St_debt, St_count_s, St_month_s, St_contribution_s, St_box_s, St_given_s, St_purse_s, St_guarantor_s, St_bid_s, St_away_s, St_taken_s, St_inside_s, St_paidForItself_s, St_paidForOthers_s, St_gotOfPot_s, St_shares_s, St_misses_s, St_debt_s, Rd_paid, Rd_missing, Rd_pence, Rd_paid_s, Rd_missing_s, Rd_pence_s, nI_clamp, nf_at, q_add, nf_un, nI_sub, nar0]
        simp only [f_X5_leave, req (n := c) hc hi (by omega), mg, bd_s, e, go, o_ne, ↓reduceIte]
      by_cases q1 : B ≤ F i / 2
      · have st := step B (by split <;> omega)
        have p1 : (0:Int32) ≤ nI (P i + B) := (nI_lei (a := 0) (by omega) (by omega)).mpr (by omega)
        refine ⟨(nI c, nI m, nI q, nI (B - B), nI g, nf (un P i (P i + B)), gu, nf b, aw, ta, upd ins i 0, nf F, nf O, nf G, nf H, nf S, nf D), p', ?_, t.nil, good (by omega), pb⟩
        rw [f_L_leave, bd_r m4, if_neg (show ¬ ta i = 1 from fun z => absurd (e1.symm.trans z) (by decide)), bd_r m6, gz2, lt_e, f2, bd_r a4, bd_r m0, if_pos rfl, if_pos (show nI B ≤ nI (F i / 2) from (nI_lei (by omega) (by omega)).mpr q1), bd_r m5, if_neg (show ¬ ins i = 0 from fun z => absurd (e2.symm.trans z) (by decide)), if_pos (show (0:Int32) ≤ nI (P i) + nI (B) from by rw [q_add]; exact p1), bd_r st, if_pos rfl, bd_r n0, if_pos (q_add _ _).symm, bd_r n4, if_pos (nI_sub (by omega)).symm, bd_r n5, if_pos rfl]
      · have st := step (F i / 2) (by split <;> omega)
        have p1 : (0:Int32) ≤ nI (P i + F i / 2) := (nI_lei (a := 0) (by omega) (by omega)).mpr (by omega)
        refine ⟨(nI c, nI m, nI q, nI (B - F i / 2), nI g, nf (un P i (P i + F i / 2)), gu, nf b, aw, ta, upd ins i 0, nf F, nf O, nf G, nf H, nf S, nf D), p', ?_, t.nil, good (by omega), pb⟩
        rw [f_L_leave, bd_r m4, if_neg (show ¬ ta i = 1 from fun z => absurd (e1.symm.trans z) (by decide)), bd_r m6, gz2, lt_e, f2, bd_r a4, bd_r m0, if_pos rfl, if_neg (show ¬ nI B ≤ nI (F i / 2) from fun z => q1 ((nI_lei (by omega) (by omega)).mp z)), bd_r m5, if_neg (show ¬ ins i = 0 from fun z => absurd (e2.symm.trans z) (by decide)), if_pos (show (0:Int32) ≤ nI (P i) + nI (F i / 2) from by rw [q_add]; exact p1), bd_r st, if_pos rfl, bd_r n0, if_pos (q_add _ _).symm, bd_r n4, if_pos (nI_sub (by omega)).symm, bd_r n5, if_pos rfl]
  · -- has taken it: pays a contribution for each that waits
    have qw : q * w ≤ 20 * 7 := Nat.mul_le_mul g2 (by omega)
    rcases hi' i with e2 | e2
    · simp (disch := omega) only [f_L_leave, m4, m5, m6, m0, a3, a4, a6, e1, e2, o_ne, gz2, f2, lt_e, bd_s, ↓reduceIte]
      exact self
    · by_cases q1 : q * w ≤ P i
      · have p1 : (0:Int32) ≤ nI (P i - q * w) := (nI_lei (a := 0) (by omega) (by omega)).mpr (by omega)
        have gn : f_X3_gainOfGoing (nI c, nI m, nI q, nI B, nI g, nf P, gu, nf b, aw, ta, ins, nf F, nf O, nf G, nf H, nf S, nf D) (nI i) = some (-(nI (q * w)), ()) := by
          simp (disch := omega) only [f_X3_gainOfGoing, e8, St_count, St_month, St_contribution, St_box, St_given, St_purse, St_guarantor, St_bid, St_away, St_taken, St_inside, St_paidForItself, St_paidForOthers, St_gotOfPot, St_shares, St_misses, St_debt, St_count_s, St_month_s, St_contribution_s, St_box_s, St_given_s, St_purse_s, St_guarantor_s, St_bid_s, St_away_s, St_taken_s, St_inside_s, St_paidForItself_s, St_paidForOthers_s, St_gotOfPot_s, St_shares_s, St_misses_s, St_debt_s, Rd_paid, Rd_missing, Rd_pence, Rd_paid_s, Rd_missing_s, Rd_pence_s, nI_clamp, e1, wn, bd_s, neg_mul_nI, o_ne, ↓reduceIte]
        have mg : f_X3_mayGo (nI c, nI m, nI q, nI B, nI g, nf P, gu, nf b, aw, ta, ins, nf F, nf O, nf G, nf H, nf S, nf D) (nI i) = some ((1:Int32), ()) := by
          simp (disch := omega) only [f_X3_mayGo, e8, St_count, St_month, St_contribution, St_box, St_given, St_purse, St_guarantor, St_bid, St_away, St_taken, St_inside, St_paidForItself, St_paidForOthers, St_gotOfPot, St_shares, St_misses, St_debt, St_count_s, St_month_s, St_contribution_s, St_box_s, St_given_s, St_purse_s, St_guarantor_s, St_bid_s, St_away_s, St_taken_s, St_inside_s, St_paidForItself_s, St_paidForOthers_s, St_gotOfPot_s, St_shares_s, St_misses_s, St_debt_s, Rd_paid, Rd_missing, Rd_pence, Rd_paid_s, Rd_missing_s, Rd_pence_s, nI_clamp, e2, gn, bd_s, nf_at, add_neg_nI, nI_sub, nI_nn, o_ne, ↓reduceIte]
        have go : f_X3_go (nI c, nI m, nI q, nI B, nI g, nf P, gu, nf b, aw, ta, ins, nf F, nf O, nf G, nf H, nf S, nf D) (nI i) = some (-(nI (q * w)), (nI c, nI m, nI q, nI (B + q * w), nI g, nf (un P i (P i - q * w)), gu, nf b, aw, ta, upd ins i 0, nf F, nf O, nf G, nf H, nf S, nf D)) := by
          simp (disch := omega) only [f_X3_go, gn, bd_s, e8, lt_e, St_count, St_month, St_contribution, St_box, St_given, St_purse, St_guarantor, St_bid, St_away, St_taken, St_inside, St_paidForItself, St_paidForOthers, St_gotOfPot, St_shares, St_misses, St_debt, St_count_s, St_month_s, St_contribution_s, St_box_s, St_given_s, St_purse_s, St_guarantor_s, St_bid_s, St_away_s, St_taken_s, St_inside_s, St_paidForItself_s, St_paidForOthers_s, St_gotOfPot_s, St_shares_s, St_misses_s, St_debt_s, Rd_paid, Rd_missing, Rd_pence, Rd_paid_s, Rd_missing_s, Rd_pence_s, nI_clamp, nf_at, add_neg_nI, sub_neg_nI, nf_un, nI_sub, nar0]
        have st : f_X5_leave (nI c, nI m, nI q, nI B, nI g, nf P, gu, nf b, aw, ta, ins, nf F, nf O, nf G, nf H, nf S, nf D) p (nI i) = some (-(nI (q * w)), ((nI c, nI m, nI q, nI (B + q * w), nI g, nf (un P i (P i - q * w)), gu, nf b, aw, ta, upd ins i 0, nf F, nf O, nf G, nf H, nf S, nf D), p')) := by
          simp only [f_X5_leave, req (n := c) hc hi (by omega), mg, bd_s, e, go, o_ne, ↓reduceIte]
        refine ⟨(nI c, nI m, nI q, nI (B + q * w), nI g, nf (un P i (P i - q * w)), gu, nf b, aw, ta, upd ins i 0, nf F, nf O, nf G, nf H, nf S, nf D), p', ?_, t.nil, good (by omega), pb⟩
        rw [f_L_leave, bd_r m4, if_pos e1, bd_r m6, gz2, lt_e, bd_r a4, bd_r m0, if_neg (show ¬ (1:Int32) = 0 by decide), bd_r a3, bd_r a6, lt_e, neg_mul_nI, bd_r m5, if_neg (show ¬ ins i = 0 from fun z => absurd (e2.symm.trans z) (by decide)), if_pos (show (0:Int32) ≤ nI (P i) + -(nI (q * w)) from by rw [add_neg_nI, nI_sub q1]; exact p1), bd_r st, if_pos rfl, bd_r n0, if_pos (show nI (P i - q * w) = nI (P i) + -(nI (q * w)) from by rw [add_neg_nI, nI_sub q1]), bd_r n4, if_pos (sub_neg_nI _ _).symm, bd_r n5, if_pos rfl]
      · have p1 : ¬ (0:Int32) ≤ nI (P i) - nI (q * w) := Int32.not_le.mpr (nI_subneg (by omega) (by omega))
        rw [f_L_leave, bd_r m4, if_pos e1, bd_r m6, gz2, lt_e, bd_r a4, bd_r m0, if_neg (show ¬ (1:Int32) = 0 by decide), bd_r a3, bd_r a6, lt_e, neg_mul_nI, bd_r m5, if_neg (show ¬ ins i = 0 from fun z => absurd (e2.symm.trans z) (by decide)), if_neg (show ¬ (0:Int32) ≤ nI (P i) + -(nI (q * w)) from by rw [add_neg_nI]; exact p1)]
        exact self
end GO
end
section
/-! the least bid -/
theorem bd_inv {A B : Type} {o : Option A} {k : A → Option B} {r : B} (h : bd o k = some r) : ∃ a, o = some a ∧ k a = some r := by
  cases o with
  | none => cases h
  | some a => exact ⟨a, rfl, h⟩
theorem lp_in {S E : Type} {b : S → Option (S ⊕ E)} {n : Nat} {s s' : S} (h : b s = some (.inl s')) : lp b (n + 1) s = lp b n s' := by rw [lp, h]
theorem lp_out {S E : Type} {b : S → Option (S ⊕ E)} {n : Nat} {s : S} {e : E} (h : b s = some (.inr e)) : lp b (n + 1) s = some e := by rw [lp, h]
theorem pass_w {r r1 : RdV} {v v1 : StV} {w w' : Int32} {x : RdV × StV} (h1 : f_X1_payIn r v = some ((), (r1, v1))) (h2 : f_X1_taker r1 v1 = some (w, ())) (h : f_X1_pass r v = some (w', x)) : w' = w := by
  rw [f_X1_pass, h1, bd_s, h2, bd_s] at h
  by_cases q : w = (-99999:Int32)
  · rw [if_pos q, lt_e] at h
    obtain ⟨a, -, h⟩ := bd_inv h
    rw [lt_e] at h
    exact (congrArg Prod.fst (Option.some.inj h)).symm
  · rw [if_neg q] at h
    obtain ⟨a, -, h⟩ := bd_inv h
    obtain ⟨a, -, h⟩ := bd_inv h
    obtain ⟨a, -, h⟩ := bd_inv h
    rw [lt_e] at h
    exact (congrArg Prod.fst (Option.some.inj h)).symm
section LEAST
variable {c m q B g : Nat} {P : Nat → Nat} {gu : Nat → Int32} {b : Nat → Nat} {aw ta ins : Nat → Int32} {F O G H S D : Nat → Nat}
variable {pd mg : Nat → Int32} {pn : Int32} {p : PaV} {l : List StV}
theorem Z8_W (hc : c ≤ 8) (ha : Bo aw) (ht : Bo ta) (hi : Bo ins) (hDb : Db c D) (zP : Zn c P) (zgu : Zi c gu) (zb : Zn c b) (za : Zi c aw) (zt : Zi c ta) (zi : Zi c ins) (zF : Zn c F) (zO : Zn c O) (zG : Zn c G) (zH : Zn c H) (zS : Zn c S) : Z8 (nI c, nI m, nI q, nI B, nI g, nf P, gu, nf b, aw, ta, ins, nf F, nf O, nf G, nf H, nf S, nf D) := by
  have n8 : ∀ {f : Nat → Nat}, Zn c f → Zi 8 (nf f) := fun {f} h j hj => by rw [nf_at, h j (by omega)]; rfl
  refine ⟨⟨n8 zP, zgu.up (by omega), n8 zb, za.up (by omega), zt.up (by omega), zi.up (by omega), n8 zF, n8 zO, n8 zG, n8 zH, n8 zS, fun k hk => ?_⟩, ha, ht, hi⟩
  show nf D k = 0
  have : D k = 0 := by
    by_cases e : D k = 0
    · exact e
    · obtain ⟨i, j, h1, h2, -, rfl⟩ := hDb k e
      omega
  rw [nf_at, this]
  rfl
theorem pay_all (h : OkW c m q B g P gu b aw ta ins F O G H S D) : ∃ (pd' mg' : Nat → Int32) (k : Nat) (P1 F1 O1 S1 D1 : Nat → Nat), k ≤ 14 ∧ (∀ j, mg' j = 0 ∨ mg' j = 1) ∧ Zi c pd' ∧ Zi c mg' ∧ (∀ b', Zn c b' → Z8 (nI c, nI m, nI q, nI B, nI g, nf P1, gu, nf b', aw, ta, ins, nf F1, nf O1, nf G, nf H, nf S1, nf D1)) ∧ ∀ r, Rz c r → ∀ b', f_X1_payIn r (nI c, nI m, nI q, nI B, nI g, nf P, gu, nf b', aw, ta, ins, nf F, nf O, nf G, nf H, nf S, nf D) = some ((), ((pd', mg', nI (q * k)), (nI c, nI m, nI q, nI B, nI g, nf P1, gu, nf b', aw, ta, ins, nf F1, nf O1, nf G, nf H, nf S1, nf D1))) := by
  have hP9 := h.P9
  obtain ⟨⟨g1, g2, g3, g4, g5⟩, g6, hg, ha, ht, hi, hb, hF, hD, hDb, zP, zgu, zb, za, zt, zi, zF, zO, zG, zH, zS⟩ := h
  have z0 : Zi c (fun _ => 0) := fun _ _ => rfl
  obtain ⟨pd', mg', k, P1, F1, O1, S1, D1, d, a1, b1, b2, b3, b4, b5, b6, b7, b8, b9, b10, b11, b12, b13, b14⟩ := payIn (pd := fun _ => 0) (mg := fun _ => 0) (pn := 0) (m := m) (q := q) (B := B) (g := g) (b := b) (ta := ta) (F := F) (O := O) (G := G) (H := H) (S := S) (D := D) (by omega) hi ha hg hP9 g2 z0 z0
  refine ⟨pd', mg', k, P1, F1, O1, S1, D1, by omega, b11, b12, b13, fun b' zb' => Z8_W (by omega) ha ht hi (b10 hDb) (fun j hj => by have := b6 j; have := zP j hj; omega) zgu zb' za zt zi (fun j hj => by rw [(b8 j hj).1]; exact zF j hj) (fun j hj => by rw [(b8 j hj).2.1]; exact zO j hj) zG zH (fun j hj => by rw [(b8 j hj).2.2]; exact zS j hj), fun r hr b' => ?_⟩
  obtain ⟨pd, mg, pn⟩ := r
  obtain ⟨rr, pu', pf', po', ms', de', f1, f2⟩ := payIn_same (pd := fun _ => 0) (mg := fun _ => 0) (pn := 0) (pd2 := pd) (mg2 := mg) (pn2 := pn) (bx := nf b') (mo := nI m) (co := nI q) (bo := nI B) (gv := nI g) (pu := nf P) (gu := gu) (bi := nf b) (aw := aw) (ta := ta) (ins := ins) (pf := nf F) (po := nf O) (go := nf G) (sh := nf H) (ms := nf S) (de := nf D) (by omega) hi ha hg z0 z0 hr.1 hr.2
  have e := Option.some.inj (f1.symm.trans a1)
  simp only [Prod.mk.injEq, true_and, and_true] at e
  obtain ⟨rfl, rfl, rfl, rfl, rfl, rfl⟩ := e
  exact f2
/-- who takes it when i bids n -/
def Win (can : Nat → Bool) (t m c : Nat) (b : Nat → Nat) (i n : Nat) : Prop := tkS can (nf (kb t (un b i n))) (m % c) c c = nI i
theorem Win.can {cn : Nat → Bool} {t i n : Nat} (h1 : 1 ≤ c) (hc : c ≤ 8) (hi : i < c) (h : Win cn t m c b i n) : cn i = true := by
  unfold Win at h
  rcases tkS_is (can := cn) (cb := nf (kb t (un b i n))) (p := m % c) (c := c) (by omega) c with e | ⟨j, hj, hcj, e⟩
  · rw [e] at h; exact absurd h.symm (fun z => (nI_neg (by omega)).mp z)
  · rw [e] at h
    rw [← (nI_inj (by omega) (by omega)).mp h]
    exact hcj
theorem kb_un {t i n : Nat} {j : Nat} (h : j ≠ i) : kb t (un b i n) j = kb t b j := by unfold kb; rw [un_ne h]
theorem kb_at {t i n : Nat} : kb t (un b i n) i = if t / 2 < n then t / 2 else n := by unfold kb; rw [un_same]
/-- the greatest of the others' bids -/
theorem great {t i : Nat} (hc : c ≤ 8) (hi : Bo ins) (ht : Bo ta) (hm : ∀ j, (mg j = 0 ∨ mg j = 1)) (ht0 : t ≤ 1000) (hb : ∀ j, b j ≤ 999) (hic : i < c) : ∃ x, f_X1_greatestBidBeside (pd, mg, nI t) (nI c, nI m, nI q, nI B, nI g, nf P, gu, nf b, aw, ta, ins, nf F, nf O, nf G, nf H, nf S, nf D) (nI i) = some (nI x, ()) ∧ (∀ j, j < c → j ≠ i → cnT ins mg ta j = true → kb t b j ≤ x) ∧ (x = 0 ∨ ∃ j, j < c ∧ j ≠ i ∧ cnT ins mg ta j = true ∧ kb t b j = x) := by
  have lo : One (lp (b_X1_greatestBidBeside_5 (pd, mg, nI t) (nI c, nI m, nI q, nI B, nI g, nf P, gu, nf b, aw, ta, ins, nf F, nf O, nf G, nf H, nf S, nf D) (nI i)) FU ((0:Int32), (0:Int32))) (fun e => ∃ x, e.1 = nI x ∧ (∀ j, j < c → j ≠ i → cnT ins mg ta j = true → kb t b j ≤ x) ∧ (x = 0 ∨ ∃ j, j < c ∧ j ≠ i ∧ cnT ins mg ta j = true ∧ kb t b j = x)) := by
    refine lp_one (fun n s => ∃ k x, s = (nI x, nI k) ∧ k ≤ c ∧ n = c - k ∧ x ≤ 1000 ∧ (∀ j, j < k → j ≠ i → cnT ins mg ta j = true → kb t b j ≤ x) ∧ (x = 0 ∨ ∃ j, j < c ∧ j ≠ i ∧ cnT ins mg ta j = true ∧ kb t b j = x)) _ ?_ (n := c) ⟨0, 0, rfl, by omega, by omega, by omega, fun j hj => by omega, Or.inl rfl⟩ (FU_gt (by omega))
    rintro n s ⟨k, x, rfl, h1, rfl, hx, h2, h3⟩ J hJ
    by_cases h : k = c
    · subst h
      simp (disch := omega) only [b_X1_greatestBidBeside_5, St_count, St_month, St_contribution, St_box, St_given, St_purse, St_guarantor, St_bid, St_away, St_taken, St_inside, St_paidForItself, St_paidForOthers, St_gotOfPot, St_shares, St_misses, St_debt, St_count_s, St_month_s, St_contribution_s, St_box_s, St_given_s, St_purse_s, St_guarantor_s, St_bid_s, St_away_s, St_taken_s, St_inside_s, St_paidForItself_s, St_paidForOthers_s, St_gotOfPot_s, St_shares_s, St_misses_s, St_debt_s, Rd_paid, Rd_missing, Rd_pence, Rd_paid_s, Rd_missing_s, Rd_pence_s, nI_lei, Nat.le_refl, ↓reduceIte]
      exact ⟨x, rfl, h2, h3⟩
    · have hk : k < c := by omega
      have nk : ¬ c ≤ k := by omega
      have keep : (k = i ∨ cnT ins mg ta k = false) → J (nI x, nI (k + 1)) := fun q => hJ _ _ (by omega) ⟨k + 1, x, rfl, by omega, rfl, hx, fun j hj hji hcj => by
        by_cases e : j = k
        · subst e
          rcases q with q | q
          · exact absurd q hji
          · rw [q] at hcj; cases hcj
        · exact h2 j (by omega) hji hcj, h3⟩
      by_cases hki : k = i
      · subst hki
        simp (disch := omega) only [b_X1_greatestBidBeside_5, St_count, St_month, St_contribution, St_box, St_given, St_purse, St_guarantor, St_bid, St_away, St_taken, St_inside, St_paidForItself, St_paidForOthers, St_gotOfPot, St_shares, St_misses, St_debt, St_count_s, St_month_s, St_contribution_s, St_box_s, St_given_s, St_purse_s, St_guarantor_s, St_bid_s, St_away_s, St_taken_s, St_inside_s, St_paidForItself_s, St_paidForOthers_s, St_gotOfPot_s, St_shares_s, St_misses_s, St_debt_s, Rd_paid, Rd_missing, Rd_pence, Rd_paid_s, Rd_missing_s, Rd_pence_s, lt_e, nI_s1, nI_lei, nk, ↓reduceIte]
        exact keep (Or.inl rfl)
      · have cx := can_x (pd := pd) (mg := mg) (pn := nI t) (mo := nI m) (co := nI q) (bo := nI B) (gv := nI g) (pu := nf P) (gu := gu) (bi := nf b) (aw := aw) (ta := ta) (ins := ins) (pf := nf F) (po := nf O) (go := nf G) (sh := nf H) (ms := nf S) (de := nf D) hk hc
        have bx := bid_x (pd := pd) (mg := mg) (pn := nI t) (mo := nI m) (co := nI q) (bo := nI B) (gv := nI g) (pu := nf P) (gu := gu) (bi := nf b) (aw := aw) (ta := ta) (ins := ins) (pf := nf F) (po := nf O) (go := nf G) (sh := nf H) (ms := nf S) (de := nf D) hk hc
        rw [cbd_kb ht0 hb] at bx
        have hh := kb_half t b k
        rcases hi k with e1 | e1
        · simp (disch := omega) only [b_X1_greatestBidBeside_5, St_count, St_month, St_contribution, St_box, St_given, St_purse, St_guarantor, St_bid, St_away, St_taken, St_inside, St_paidForItself, St_paidForOthers, St_gotOfPot, St_shares, St_misses, St_debt, St_count_s, St_month_s, St_contribution_s, St_box_s, St_given_s, St_purse_s, St_guarantor_s, St_bid_s, St_away_s, St_taken_s, St_inside_s, St_paidForItself_s, St_paidForOthers_s, St_gotOfPot_s, St_shares_s, St_misses_s, St_debt_s, Rd_paid, Rd_missing, Rd_pence, Rd_paid_s, Rd_missing_s, Rd_pence_s, lt_e, nI_s1, nI_lei, nI_inj, nk, hki, cx, e1, bd_s, ↓reduceIte]
          exact keep (Or.inr (cnT_no (Or.inl e1)))
        · rcases hm k with e2 | e2
          · rcases ht k with e3 | e3
            · by_cases q : x < kb t b k
              · simp (disch := omega) only [b_X1_greatestBidBeside_5, St_count, St_month, St_contribution, St_box, St_given, St_purse, St_guarantor, St_bid, St_away, St_taken, St_inside, St_paidForItself, St_paidForOthers, St_gotOfPot, St_shares, St_misses, St_debt, St_count_s, St_month_s, St_contribution_s, St_box_s, St_given_s, St_purse_s, St_guarantor_s, St_bid_s, St_away_s, St_taken_s, St_inside_s, St_paidForItself_s, St_paidForOthers_s, St_gotOfPot_s, St_shares_s, St_misses_s, St_debt_s, Rd_paid, Rd_missing, Rd_pence, Rd_paid_s, Rd_missing_s, Rd_pence_s, lt_e, nI_s1, nI_lei, nI_inj, nI_lti, nk, hki, cx, bx, q, e1, e2, e3, o_ne, bd_s, ↓reduceIte]
                exact hJ _ _ (by omega) ⟨k + 1, kb t b k, rfl, by omega, rfl, by omega, fun j hj hji hcj => by
                  by_cases e : j = k
                  · subst e; omega
                  · have := h2 j (by omega) hji hcj; omega, Or.inr ⟨k, hk, hki, cnT_yes e1 e2 e3, rfl⟩⟩
              · simp (disch := omega) only [b_X1_greatestBidBeside_5, St_count, St_month, St_contribution, St_box, St_given, St_purse, St_guarantor, St_bid, St_away, St_taken, St_inside, St_paidForItself, St_paidForOthers, St_gotOfPot, St_shares, St_misses, St_debt, St_count_s, St_month_s, St_contribution_s, St_box_s, St_given_s, St_purse_s, St_guarantor_s, St_bid_s, St_away_s, St_taken_s, St_inside_s, St_paidForItself_s, St_paidForOthers_s, St_gotOfPot_s, St_shares_s, St_misses_s, St_debt_s, Rd_paid, Rd_missing, Rd_pence, Rd_paid_s, Rd_missing_s, Rd_pence_s, lt_e, nI_s1, nI_lei, nI_inj, nI_lti, nk, hki, cx, bx, q, e1, e2, e3, o_ne, bd_s, ↓reduceIte]
                exact hJ _ _ (by omega) ⟨k + 1, x, rfl, by omega, rfl, hx, fun j hj hji hcj => by
                  by_cases e : j = k
                  · subst e; omega
                  · exact h2 j (by omega) hji hcj, h3⟩
            · simp (disch := omega) only [b_X1_greatestBidBeside_5, St_count, St_month, St_contribution, St_box, St_given, St_purse, St_guarantor, St_bid, St_away, St_taken, St_inside, St_paidForItself, St_paidForOthers, St_gotOfPot, St_shares, St_misses, St_debt, St_count_s, St_month_s, St_contribution_s, St_box_s, St_given_s, St_purse_s, St_guarantor_s, St_bid_s, St_away_s, St_taken_s, St_inside_s, St_paidForItself_s, St_paidForOthers_s, St_gotOfPot_s, St_shares_s, St_misses_s, St_debt_s, Rd_paid, Rd_missing, Rd_pence, Rd_paid_s, Rd_missing_s, Rd_pence_s, lt_e, nI_s1, nI_lei, nI_inj, nk, hki, cx, e1, e2, e3, o_ne, bd_s, ↓reduceIte]
              exact keep (Or.inr (cnT_no (Or.inr (Or.inr e3))))
          · simp (disch := omega) only [b_X1_greatestBidBeside_5, St_count, St_month, St_contribution, St_box, St_given, St_purse, St_guarantor, St_bid, St_away, St_taken, St_inside, St_paidForItself, St_paidForOthers, St_gotOfPot, St_shares, St_misses, St_debt, St_count_s, St_month_s, St_contribution_s, St_box_s, St_given_s, St_purse_s, St_guarantor_s, St_bid_s, St_away_s, St_taken_s, St_inside_s, St_paidForItself_s, St_paidForOthers_s, St_gotOfPot_s, St_shares_s, St_misses_s, St_debt_s, Rd_paid, Rd_missing, Rd_pence, Rd_paid_s, Rd_missing_s, Rd_pence_s, lt_e, nI_s1, nI_lei, nI_inj, nk, hki, cx, e1, e2, o_ne, bd_s, ↓reduceIte]
            exact keep (Or.inr (cnT_no (Or.inr (Or.inl e2))))
  obtain ⟨e, e1, x, e2, e3, e4⟩ := on_get lo
  exact ⟨x, by rw [f_X1_greatestBidBeside, e1, bd_s, e2], e3, e4⟩
theorem win_none {cn : Nat → Bool} {t i x : Nat} (h1 : 1 ≤ c) (hc : c ≤ 8) (hi : i < c) (ht0 : t ≤ 1000) (hmax : ∀ j, j < c → j ≠ i → cn j = true → kb t b j ≤ x) (n1 : ¬ Win cn t m c b i x) (n2 : ¬ Win cn t m c b i (x + 1)) : ¬ Win cn t m c b i 999 := by
  intro hw
  have hci := hw.can h1 hc hi
  by_cases q : x + 1 ≤ t / 2
  · refine n2 (tk_win hc hi hci fun j hj hji hcj => ?_)
    have e1 := hmax j hj hji hcj
    have hh := kb_half t b j
    rw [nf_at, nf_at, kb_un hji, kb_at, if_neg (by omega)]
    exact (nI_lti (by omega) (by omega)).mpr (by omega)
  · refine n1 ?_
    unfold Win at hw ⊢
    rw [← hw]
    refine tkS_cong (by omega) hc (fun j hj => ?_) c
    rw [nf_at, nf_at]
    by_cases e : j = i
    · subst e
      rw [kb_at, kb_at]
      congr 1
      split <;> split <;> omega
    · rw [kb_un e, kb_un e]
theorem win_less {cn : Nat → Bool} {t i x : Nat} (h1 : 1 ≤ c) (hc : c ≤ 8) (hi : i < c) (ht0 : t ≤ 1000) (hx : x = 0 ∨ ∃ j, j < c ∧ j ≠ i ∧ cn j = true ∧ kb t b j = x) : x = 0 ∨ ¬ Win cn t m c b i (x - 1) := by
  rcases hx with e | ⟨j, hj, hji, hcj, e⟩
  · exact Or.inl e
  · by_cases x0 : x = 0
    · exact Or.inl x0
    · refine Or.inr fun hw => ?_
      have hh := kb_half t b j
      have := (tk_max hc hw (by omega) hj hcj).2
      rw [nf_at, nf_at, kb_un hji, kb_at, e] at this
      have := (nI_lei (by omega) (by split <;> omega)).mp this
      split at this <;> omega
theorem leastBid_ok (h : OkW c m q B g P gu b aw ta ins F O G H S D) (h1 : 1 ≤ c) {i k : Nat} (hic : i < c) {pd' mg' : Nat → Int32} {P1 F1 O1 S1 D1 : Nat → Nat} (hk : k ≤ 14) (hm : ∀ j, mg' j = 0 ∨ mg' j = 1) (zp : Zi c pd') (zm : Zi c mg') (hz8 : ∀ b', Zn c b' → Z8 (nI c, nI m, nI q, nI B, nI g, nf P1, gu, nf b', aw, ta, ins, nf F1, nf O1, nf G, nf H, nf S1, nf D1)) (hpay : ∀ r, Rz c r → ∀ b', f_X1_payIn r (nI c, nI m, nI q, nI B, nI g, nf P, gu, nf b', aw, ta, ins, nf F, nf O, nf G, nf H, nf S, nf D) = some ((), ((pd', mg', nI (q * k)), (nI c, nI m, nI q, nI B, nI g, nf P1, gu, nf b', aw, ta, ins, nf F1, nf O1, nf G, nf H, nf S1, nf D1)))) {t : StV} (zt : Z8 t) {r : RdV} (hr : Rz c r) : ∃ x v2, f_X5_leastBid (nI c, nI m, nI q, nI B, nI g, nf P, gu, nf b, aw, ta, ins, nf F, nf O, nf G, nf H, nf S, nf D) t r (nI i) = some (x, (v2, (pd', mg', nI (q * k)))) ∧ Z8 v2 ∧ ((x = (-99999:Int32) ∧ ¬ Win (cnT ins mg' ta) (q * k) m c b i 999) ∨ ∃ n, n ≤ 999 ∧ x = nI n ∧ Win (cnT ins mg' ta) (q * k) m c b i n ∧ (n = 0 ∨ ¬ Win (cnT ins mg' ta) (q * k) m c b i (n - 1))) := by
  have z : Z8 (nI c, nI m, nI q, nI B, nI g, nf P, gu, nf b, aw, ta, ins, nf F, nf O, nf G, nf H, nf S, nf D) := Ok.z ⟨B, P, gu, b, aw, ta, ins, F, O, G, H, S, D, rfl, h⟩
  obtain ⟨⟨g1, g2, g3, g4, g5⟩, g6, hg, ha, ht, hi, hb, hF, hD, hDb, zP, zgu, zb, zr⟩ := h
  have tq : q * k ≤ 20 * 14 := Nat.mul_le_mul g2 hk
  have hc : St_count (nI c, nI m, nI q, nI B, nI g, nf P, gu, nf b, aw, ta, ins, nf F, nf O, nf G, nf H, nf S, nf D) = nI c := rfl
  have cp := copy_is z zt
  have py := hpay r hr b
  have cx := can_x (pd := pd') (mg := mg') (pn := nI (q * k)) (mo := nI m) (co := nI q) (bo := nI B) (gv := nI g) (pu := nf P1) (gu := gu) (bi := nf b) (aw := aw) (ta := ta) (ins := ins) (pf := nf F1) (po := nf O1) (go := nf G) (sh := nf H) (ms := nf S1) (de := nf D1) hic (by omega)
  have tk : ∀ n, n ≤ 999 → f_X1_taker (pd', mg', nI (q * k)) (nI c, nI m, nI q, nI B, nI g, nf P1, gu, nf (un b i n), aw, ta, ins, nf F1, nf O1, nf G, nf H, nf S1, nf D1) = some (tkS (cnT ins mg' ta) (nf (kb (q * k) (un b i n))) (m % c) c c, ()) := fun n hn => by
    have hb' : ∀ j, un b i n j ≤ 999 := fun j => by
      by_cases e : j = i
      · subst e; rw [un_same]; exact hn
      · rw [un_ne e]; exact hb j
    rw [taker_x (by omega) hi ht (fun j _ => hm j) rfl (by omega), cbd_f (by omega) hb']
  by_cases hcan : cnT ins mg' ta i = true
  · have e1 : ins i = 1 ∧ mg' i = 0 ∧ ta i = 0 := by
      unfold cnT at hcan
      simp only [Bool.and_eq_true, beq_iff_eq] at hcan
      exact ⟨hcan.1.1, hcan.1.2, hcan.2⟩
    obtain ⟨x, gx, gmax, gat⟩ := great (c := c) (m := m) (q := q) (B := B) (g := g) (P := P1) (gu := gu) (b := b) (aw := aw) (ta := ta) (ins := ins) (F := F1) (O := O1) (G := G) (H := H) (S := S1) (D := D1) (pd := pd') (mg := mg') (t := q * k) (i := i) (by omega) hi ht hm (by omega) hb hic
    have hx : x ≤ 140 := by
      rcases gat with e | ⟨j, -, -, -, e⟩
      · omega
      · have := kb_half (q * k) b j; omega
    have c0 : ¬ (1:Int32) = 0 := by decide
    have s0 : nI x + (1:Int32) = nI (x + 1) := nI_s1 x
    have s1 : nI (x + 1) + (1:Int32) = nI (x + 1 + 1) := nI_s1 (x + 1)
    have b0 : ∀ y, upd (nf b) i (nI y) = nf (un b i y) := fun y => nf_un b i y
    have b1 : upd (nf (un b i x)) i (nI (x + 1)) = nf (un b i (x + 1)) := by rw [nf_un, un_un]
    have k0 : ¬ nI (x + 1) < nI x := fun z => by have := (nI_lti (by omega) (by omega)).mp z; omega
    have k1 : ¬ nI (x + 1) < nI (x + 1) := fun z => by have := (nI_lti (by omega) (by omega)).mp z; omega
    have k2 : nI (x + 1) < nI (x + 1 + 1) := (nI_lti (by omega) (by omega)).mpr (by omega)
    have t0 := tk x (by omega)
    have t1 := tk (x + 1) (by omega)
    have g8 : ∀ {β : Type} {k : Option β}, gi (nI i) 8 k = k := fun {β k} => gi_ok (by omega) (by omega)
    have ci : (nI i).toNatClampNeg = i := nI_clamp (by omega)
    have head : ∀ R, f_X5_leastBid (nI c, nI m, nI q, nI B, nI g, nf P, gu, nf b, aw, ta, ins, nf F, nf O, nf G, nf H, nf S, nf D) t r (nI i) = R ↔ bd (lp (b_X5_leastBid_60 (nI c, nI m, nI q, nI B, nI g, nf P, gu, nf b, aw, ta, ins, nf F, nf O, nf G, nf H, nf S, nf D) (pd', mg', nI (q * k)) (nI i) (nI x)) FU (nI x, (nI c, nI m, nI q, nI B, nI g, nf P1, gu, nf b, aw, ta, ins, nf F1, nf O1, nf G, nf H, nf S1, nf D1))) (fun (e13 : ((Int32 × StV) ⊕ (Int32 × (StV × RdV)))) => el e13 (fun (s14 : (Int32 × StV)) => some ((-99999:Int32), (s14.2, (pd', mg', nI (q * k))))) (fun r => r)) = R := fun R => by
      simp only [f_X5_leastBid, req (n := c) hc hic (by omega), cp, py, cx, e1.1, e1.2.1, e1.2.2, gx, bd_s, c0, o_ne, ↓reduceIte]
    have fu : FU = 999997 + 1 + 1 + 1 := rfl
    by_cases w0 : Win (cnT ins mg' ta) (q * k) m c b i x
    · refine ⟨nI x, (nI c, nI m, nI q, nI B, nI g, nf P1, gu, nf (un b i x), aw, ta, ins, nf F1, nf O1, nf G, nf H, nf S1, nf D1), (head _).mpr ?_, hz8 _ (zb.un hic), Or.inr ⟨x, by omega, rfl, w0, win_less h1 (by omega) hic (by omega) gat⟩⟩
      rw [fu, lp_out (e := .inr (nI x, ((nI c, nI m, nI q, nI B, nI g, nf P1, gu, nf (un b i x), aw, ta, ins, nf F1, nf O1, nf G, nf H, nf S1, nf D1), (pd', mg', nI (q * k))))) (by
        have w0 : tkS (cnT ins mg' ta) (nf (kb (q * k) (un b i x))) (m % c) c c = nI i := w0
        simp only [b_X5_leastBid_60, St_count, St_month, St_contribution, St_box, St_given, St_purse, St_guarantor, St_bid, St_away, St_taken, St_inside, St_paidForItself, St_paidForOthers, St_gotOfPot, St_shares, St_misses, St_debt, St_count_s, St_month_s, St_contribution_s, St_box_s, St_given_s, St_purse_s, St_guarantor_s, St_bid_s, St_away_s, St_taken_s, St_inside_s, St_paidForItself_s, St_paidForOthers_s, St_gotOfPot_s, St_shares_s, St_misses_s, St_debt_s, Rd_paid, Rd_missing, Rd_pence, Rd_paid_s, Rd_missing_s, Rd_pence_s, s0, k0, g8, ci, b0, lt_e, t0, w0, bd_s, ↓reduceIte])]
      rfl
    · have w0' : ¬ tkS (cnT ins mg' ta) (nf (kb (q * k) (un b i x))) (m % c) c c = nI i := w0
      have st0 : b_X5_leastBid_60 (nI c, nI m, nI q, nI B, nI g, nf P, gu, nf b, aw, ta, ins, nf F, nf O, nf G, nf H, nf S, nf D) (pd', mg', nI (q * k)) (nI i) (nI x) (nI x, (nI c, nI m, nI q, nI B, nI g, nf P1, gu, nf b, aw, ta, ins, nf F1, nf O1, nf G, nf H, nf S1, nf D1)) = some (.inl (nI (x + 1), (nI c, nI m, nI q, nI B, nI g, nf P1, gu, nf (un b i x), aw, ta, ins, nf F1, nf O1, nf G, nf H, nf S1, nf D1))) := by
        simp only [b_X5_leastBid_60, St_count, St_month, St_contribution, St_box, St_given, St_purse, St_guarantor, St_bid, St_away, St_taken, St_inside, St_paidForItself, St_paidForOthers, St_gotOfPot, St_shares, St_misses, St_debt, St_count_s, St_month_s, St_contribution_s, St_box_s, St_given_s, St_purse_s, St_guarantor_s, St_bid_s, St_away_s, St_taken_s, St_inside_s, St_paidForItself_s, St_paidForOthers_s, St_gotOfPot_s, St_shares_s, St_misses_s, St_debt_s, Rd_paid, Rd_missing, Rd_pence, Rd_paid_s, Rd_missing_s, Rd_pence_s, s0, k0, g8, ci, b0, lt_e, t0, w0', bd_s, ↓reduceIte]
      by_cases w1 : Win (cnT ins mg' ta) (q * k) m c b i (x + 1)
      · refine ⟨nI (x + 1), (nI c, nI m, nI q, nI B, nI g, nf P1, gu, nf (un b i (x + 1)), aw, ta, ins, nf F1, nf O1, nf G, nf H, nf S1, nf D1), (head _).mpr ?_, hz8 _ (zb.un hic), Or.inr ⟨x + 1, by omega, rfl, w1, Or.inr w0⟩⟩
        rw [fu, lp_in st0, lp_out (e := .inr (nI (x + 1), ((nI c, nI m, nI q, nI B, nI g, nf P1, gu, nf (un b i (x + 1)), aw, ta, ins, nf F1, nf O1, nf G, nf H, nf S1, nf D1), (pd', mg', nI (q * k))))) (by
          have w1 : tkS (cnT ins mg' ta) (nf (kb (q * k) (un b i (x + 1)))) (m % c) c c = nI i := w1
          simp only [b_X5_leastBid_60, St_count, St_month, St_contribution, St_box, St_given, St_purse, St_guarantor, St_bid, St_away, St_taken, St_inside, St_paidForItself, St_paidForOthers, St_gotOfPot, St_shares, St_misses, St_debt, St_count_s, St_month_s, St_contribution_s, St_box_s, St_given_s, St_purse_s, St_guarantor_s, St_bid_s, St_away_s, St_taken_s, St_inside_s, St_paidForItself_s, St_paidForOthers_s, St_gotOfPot_s, St_shares_s, St_misses_s, St_debt_s, Rd_paid, Rd_missing, Rd_pence, Rd_paid_s, Rd_missing_s, Rd_pence_s, s0, k1, g8, ci, b1, lt_e, t1, w1, bd_s, ↓reduceIte])]
        rfl
      · have w1' : ¬ tkS (cnT ins mg' ta) (nf (kb (q * k) (un b i (x + 1)))) (m % c) c c = nI i := w1
        refine ⟨(-99999:Int32), (nI c, nI m, nI q, nI B, nI g, nf P1, gu, nf (un b i (x + 1)), aw, ta, ins, nf F1, nf O1, nf G, nf H, nf S1, nf D1), (head _).mpr ?_, hz8 _ (zb.un hic), Or.inl ⟨rfl, win_none h1 (by omega) hic (by omega) gmax w0 w1⟩⟩
        have st1 : b_X5_leastBid_60 (nI c, nI m, nI q, nI B, nI g, nf P, gu, nf b, aw, ta, ins, nf F, nf O, nf G, nf H, nf S, nf D) (pd', mg', nI (q * k)) (nI i) (nI x) (nI (x + 1), (nI c, nI m, nI q, nI B, nI g, nf P1, gu, nf (un b i x), aw, ta, ins, nf F1, nf O1, nf G, nf H, nf S1, nf D1)) = some (.inl (nI (x + 1 + 1), (nI c, nI m, nI q, nI B, nI g, nf P1, gu, nf (un b i (x + 1)), aw, ta, ins, nf F1, nf O1, nf G, nf H, nf S1, nf D1))) := by
          simp only [b_X5_leastBid_60, St_count, St_month, St_contribution, St_box, St_given, St_purse, St_guarantor, St_bid, St_away, St_taken, St_inside, St_paidForItself, St_paidForOthers, St_gotOfPot, St_shares, St_misses, St_debt, St_count_s, St_month_s, St_contribution_s, St_box_s, St_given_s, St_purse_s, St_guarantor_s, St_bid_s, St_away_s, St_taken_s, St_inside_s, St_paidForItself_s, St_paidForOthers_s, St_gotOfPot_s, St_shares_s, St_misses_s, St_debt_s, Rd_paid, Rd_missing, Rd_pence, Rd_paid_s, Rd_missing_s, Rd_pence_s, s0, k1, g8, ci, b1, lt_e, t1, w1', s1, bd_s, ↓reduceIte]
        rw [fu, lp_in st0, lp_in st1, lp_out (e := .inl (nI (x + 1 + 1), (nI c, nI m, nI q, nI B, nI g, nf P1, gu, nf (un b i (x + 1)), aw, ta, ins, nf F1, nf O1, nf G, nf H, nf S1, nf D1))) (by
          simp only [b_X5_leastBid_60, s0, k2, ↓reduceIte])]
        rfl
  · have e : (if ins i = 0 then (0:Int32) else if mg' i = 0 then (if ta i = 0 then 1 else 0) else 0) = 0 := by
      rcases hi i with e1 | e1
      · rw [if_pos e1]
      · rw [if_neg (by rw [e1]; decide)]
        rcases hm i with e2 | e2
        · rcases ht i with e3 | e3
          · exact absurd (cnT_yes e1 e2 e3) hcan
          · rw [if_pos e2, if_neg (by rw [e3]; decide)]
        · rw [if_neg (by rw [e2]; decide)]
    rw [e] at cx
    refine ⟨(-99999:Int32), (nI c, nI m, nI q, nI B, nI g, nf P1, gu, nf b, aw, ta, ins, nf F1, nf O1, nf G, nf H, nf S1, nf D1), ?_, hz8 _ zb, Or.inl ⟨rfl, fun hw => hcan (hw.can h1 (by omega) hic)⟩⟩
    simp only [f_X5_leastBid, req (n := c) hc hic (by omega), cp, py, cx, bd_s, ↓reduceIte]
end LEAST
end
section
/-! the law's trial of a least bid -/
theorem winner_ok {c m q g : Nat} {v : StV} {w : Int32} {k : Nat} {v' : StV} (h : Ok c m q g v) (s : Step c m q g v w k v') {t : StV} (zt : Z8 t) {r : RdV} (hr : Rz c r) : ∃ r', f_X5_winner v t r = some (w, (v', r')) ∧ Rz c r' ∧ Z8 v' := by
  obtain ⟨r', h1, -, h2, -⟩ := s.2.2.2.2.2.2.2.2.2 r hr
  refine ⟨r', ?_, h1, s.1.z⟩
  simp only [f_X5_winner, copy_is h.z zt, bd_s, h2]
section LB
variable {c m q B g : Nat} {P : Nat → Nat} {gu : Nat → Int32} {b : Nat → Nat} {aw ta ins : Nat → Int32} {F O G H S D : Nat → Nat}
variable {p : PaV} {l : List StV}
theorem win_bid (h : OkW c m q B g P gu b aw ta ins F O G H S D) (h1 : 1 ≤ c) (hm8 : m ≤ 98) {i k n : Nat} (hic : i < c) {pd' mg' : Nat → Int32} {P1 F1 O1 S1 D1 : Nat → Nat} (hk : k ≤ 14) (hm : ∀ j, mg' j = 0 ∨ mg' j = 1) (hpay : ∀ r, Rz c r → ∀ b', f_X1_payIn r (nI c, nI m, nI q, nI B, nI g, nf P, gu, nf b', aw, ta, ins, nf F, nf O, nf G, nf H, nf S, nf D) = some ((), ((pd', mg', nI (q * k)), (nI c, nI m, nI q, nI B, nI g, nf P1, gu, nf b', aw, ta, ins, nf F1, nf O1, nf G, nf H, nf S1, nf D1)))) (hn : n ≤ 999) (ok : OkW c m q B g P gu (un b i n) aw ta ins F O G H S D) {t : StV} (zt : Z8 t) {r : RdV} (hr : Rz c r) : ∃ w t' r', f_X5_winner (nI c, nI m, nI q, nI B, nI g, nf P, gu, nf (un b i n), aw, ta, ins, nf F, nf O, nf G, nf H, nf S, nf D) t r = some (w, (t', r')) ∧ Rz c r' ∧ Z8 t' ∧ (w = nI i ↔ Win (cnT ins mg' ta) (q * k) m c b i n) := by
  have okv : Ok c m q g (nI c, nI m, nI q, nI B, nI g, nf P, gu, nf (un b i n), aw, ta, ins, nf F, nf O, nf G, nf H, nf S, nf D) := ⟨B, P, gu, _, aw, ta, ins, F, O, G, H, S, D, rfl, ok⟩
  obtain ⟨w, k', v', st⟩ := month_step okv h1 hm8
  obtain ⟨r', e, zr, z8⟩ := winner_ok okv st zt hr
  refine ⟨w, v', r', e, zr, z8, ?_⟩
  obtain ⟨r1, -, -, e2, -⟩ := st.2.2.2.2.2.2.2.2.2 r hr
  obtain ⟨⟨g1, g2, g3, g4, g5⟩, g6, hg, ha, ht, hi, hb, -⟩ := ok
  have tq : q * k ≤ 20 * 14 := Nat.mul_le_mul g2 hk
  have tk := taker_x (c := c) (pd := pd') (mg := mg') (pn := nI (q * k)) (co := nI q) (bo := nI B) (gv := nI g) (pu := nf P1) (gu := gu) (bi := nf (un b i n)) (aw := aw) (pf := nf F1) (po := nf O1) (go := nf G) (sh := nf H) (ms := nf S1) (de := nf D1) (by omega) hi ht (fun j _ => hm j) (mo := nI m) (m := m) rfl (by omega)
  rw [cbd_f (by omega) hb] at tk
  have := pass_w (hpay r hr (un b i n)) tk e2
  rw [this]
  exact Iff.rfl
theorem lawLB (h : OkW c m q B g P gu b aw ta ins F O G H S D) (h1 : 1 ≤ c) (hm8 : m ≤ 98) {i : Nat} (hic : i < c) (tp : Top p l) (hl : l.length ≤ 12) {t : StV} (zt : Z8 t) {r : RdV} (hr : Rz c r) : ∃ t' r' p', f_L_leastBid (nI c, nI m, nI q, nI B, nI g, nf P, gu, nf b, aw, ta, ins, nf F, nf O, nf G, nf H, nf S, nf D) t r p (nI i) = some ((1:Int32), ((nI c, nI m, nI q, nI B, nI g, nf P, gu, nf b, aw, ta, ins, nf F, nf O, nf G, nf H, nf S, nf D), t', r', p')) ∧ Z8 t' ∧ Rz c r' ∧ Top p' l := by
  obtain ⟨pd', mg', k, P1, F1, O1, S1, D1, hk, hmg, zp, zm, hz8, hpay⟩ := pay_all h
  obtain ⟨x, t1, e1, z1, hx⟩ := leastBid_ok h h1 hic hk hmg zp zm hz8 hpay zt hr
  have r1 : Rz c (pd', mg', nI (q * k)) := ⟨zp, zm⟩
  have h0 := h
  obtain ⟨⟨g1, g2, g3, g4, g5⟩, g6, hg, ha, ht, hi, hb, hF, hD, hDb, zP, zgu, zb, zr⟩ := h
  have hc : St_count (nI c, nI m, nI q, nI B, nI g, nf P, gu, nf b, aw, ta, ins, nf F, nf O, nf G, nf H, nf S, nf D) = nI c := rfl
  have m5 : f_X5_member (nI c, nI m, nI q, nI B, nI g, nf P, gu, nf b, aw, ta, ins, nf F, nf O, nf G, nf H, nf S, nf D) (nI i) (5:Int32) = some (ins i, ()) := mem_5 (n := c) hc hic (by omega) hi
  have m4 : f_X5_member (nI c, nI m, nI q, nI B, nI g, nf P, gu, nf b, aw, ta, ins, nf F, nf O, nf G, nf H, nf S, nf D) (nI i) (4:Int32) = some (ta i, ()) := mem_4 (n := c) hc hic (by omega) ht
  have m2 : f_X5_member (nI c, nI m, nI q, nI B, nI g, nf P, gu, nf b, aw, ta, ins, nf F, nf O, nf G, nf H, nf S, nf D) (nI i) (2:Int32) = some (nI (b i), ()) := mem_2 (n := c) hc hic (by omega)
  have hw9 : ∀ s : Nat, s ≤ 14 → ¬ nI s < (0:Int32) := fun s hs z => (nI_nn (by omega)).mp z
  -- a bid, who takes it, undone
  have trial : ∀ (n : Nat) (t2 : StV) (r2 : RdV) (p2 : PaV), n ≤ 999 → ins i = 1 → ta i = 0 → Z8 t2 → Rz c r2 → Top p2 l → ∃ w p3 t3 r3 s p4, f_X5_bid (nI c, nI m, nI q, nI B, nI g, nf P, gu, nf b, aw, ta, ins, nf F, nf O, nf G, nf H, nf S, nf D) p2 (nI i) (nI n) = some (nI (b i), ((nI c, nI m, nI q, nI B, nI g, nf P, gu, nf (un b i n), aw, ta, ins, nf F, nf O, nf G, nf H, nf S, nf D), p3)) ∧ f_X5_winner (nI c, nI m, nI q, nI B, nI g, nf P, gu, nf (un b i n), aw, ta, ins, nf F, nf O, nf G, nf H, nf S, nf D) t2 r2 = some (w, (t3, r3)) ∧ (w = nI i ↔ Win (cnT ins mg' ta) (q * k) m c b i n) ∧ Z8 t3 ∧ Rz c r3 ∧ s ≤ 14 ∧ f_X5_undo (nI c, nI m, nI q, nI B, nI g, nf P, gu, nf (un b i n), aw, ta, ins, nf F, nf O, nf G, nf H, nf S, nf D) p3 = some (nI s, ((nI c, nI m, nI q, nI B, nI g, nf P, gu, nf b, aw, ta, ins, nf F, nf O, nf G, nf H, nf S, nf D), p4)) ∧ Top p4 l := by
    intro n t2 r2 p2 hn i1 i2 z2 hr2 tp2
    obtain ⟨p3, b1, b2, b3⟩ := bid_ok h0 tp2 (by omega) hic hn i1 i2
    obtain ⟨w, t3, r3, c1, c2, c3, c4⟩ := win_bid h0 h1 hm8 hic hk hmg hpay hn b3 z2 hr2
    obtain ⟨s, p4, d1, d2, d3⟩ := b2.undo (w := (nI c, nI m, nI q, nI B, nI g, nf P, gu, nf (un b i n), aw, ta, ins, nf F, nf O, nf G, nf H, nf S, nf D)) (Ok.z ⟨B, P, gu, _, aw, ta, ins, F, O, G, H, S, D, rfl, b3⟩)
    exact ⟨w, p3, t3, r3, s, p4, b1, c1, c4, c3, c2, d1, d2, d3⟩
  have none9 : ∀ {y : Nat}, y ≤ 999 → ¬ nI y = (-99999:Int32) := fun {y} hy q => (nI_neg (by omega)).mp q
  rcases hi i with i1 | i1
  · -- outside
    rcases hx with ⟨rfl, -⟩ | ⟨n, hn, rfl, hw, -⟩
    · refine ⟨t1, (pd', mg', nI (q * k)), p, ?_, z1, r1, tp⟩
      rw [f_L_leastBid, bd_r e1, bd_r m5, if_neg (show ¬ ins i = 1 from fun z => absurd (i1.symm.trans z) (by decide)), if_pos rfl, if_pos rfl]
    · have := hw.can h1 (by omega) hic
      rw [cnT_no (Or.inl i1)] at this
      cases this
  · rcases ht i with i2 | i2
    · rcases hx with ⟨rfl, hw⟩ | ⟨n, hn, rfl, hw, hl9⟩
      · obtain ⟨w, p3, t3, r3, s, p4, b1, c1, c2, c3, c4, s1, d1, d2⟩ := trial 999 t1 _ p (by omega) i1 i2 z1 r1 tp
        have b1 : f_X5_bid (nI c, nI m, nI q, nI B, nI g, nf P, gu, nf b, aw, ta, ins, nf F, nf O, nf G, nf H, nf S, nf D) p (nI i) (999:Int32) = _ := b1
        have nw : ¬ w = nI i := fun z => hw (c2.mp z)
        refine ⟨t3, r3, p4, ?_, c3, c4, d2⟩
        rw [f_L_leastBid, bd_r e1, bd_r m5, if_pos i1, bd_r m4, if_pos i2, if_neg (show ¬ (1:Int32) = 0 by decide), bd_r m2, if_pos rfl, bd_r b1, if_pos rfl, bd_r c1, if_neg nw, bd_r d1, if_neg (hw9 s s1)]
      · obtain ⟨w, p3, t3, r3, s, p4, b1, c1, c2, c3, c4, s1, d1, d2⟩ := trial n t1 _ p hn i1 i2 z1 r1 tp
        have yw : w = nI i := c2.mpr hw
        subst yw
        by_cases n0 : n = 0
        · subst n0
          have z00 : nI 0 = (0:Int32) := rfl
          refine ⟨t3, r3, p4, ?_, c3, c4, d2⟩
          rw [f_L_leastBid, bd_r e1, bd_r m5, if_pos i1, bd_r m4, if_pos i2, if_neg (show ¬ (1:Int32) = 0 by decide), bd_r m2, if_neg (none9 hn), bd_r b1, if_pos rfl, bd_r c1, if_pos rfl, bd_r d1, if_neg (hw9 s s1), if_neg (show ¬ (1:Int32) = 0 by decide), if_pos z00]
        · have nz : ¬ nI n = (0:Int32) := fun z => n0 ((eq0 (by omega)).mp z)
          rcases hl9 with q0 | hl9
          · exact absurd q0 n0
          · obtain ⟨w, p5, t5, r5, s5, p6, b5, c5, c6, c7, c8, s6, d5, d6⟩ := trial (n - 1) t3 r3 p4 (by omega) i1 i2 c3 c4 d2
            have nw : ¬ w = nI i := fun z => hl9 (c6.mp z)
            have n1 : nI n - (1:Int32) = nI (n - 1) := nI_sub (b := 1) (by omega)
            refine ⟨t5, r5, p6, ?_, c7, c8, d6⟩
            rw [← n1] at b5
            rw [f_L_leastBid, bd_r e1, bd_r m5, if_pos i1, bd_r m4, if_pos i2, if_neg (show ¬ (1:Int32) = 0 by decide), bd_r m2, if_neg (none9 hn), bd_r b1, if_pos rfl, bd_r c1, if_pos rfl, bd_r d1, if_neg (hw9 s s1), if_neg (show ¬ (1:Int32) = 0 by decide), if_neg nz, bd_r b5, if_pos rfl, bd_r c5, if_neg nw, bd_r d5, if_neg (hw9 s5 s6)]
    · rcases hx with ⟨rfl, -⟩ | ⟨n, hn, rfl, hw, -⟩
      · refine ⟨t1, (pd', mg', nI (q * k)), p, ?_, z1, r1, tp⟩
        rw [f_L_leastBid, bd_r e1, bd_r m5, if_pos i1, bd_r m4, if_neg (show ¬ ta i = 0 from fun z => absurd (i2.symm.trans z) (by decide)), if_pos rfl, if_pos rfl]
      · have := hw.can h1 (by omega) hic
        rw [cnT_no (Or.inr (Or.inr i2))] at this
        cases this
end LB
end
section
/-! the months ahead: when it is one's turn, how it ends -/
theorem Step.det {c m q g : Nat} {v : StV} {w w2 : Int32} {k k2 : Nat} {v' v2 : StV} (h : Step c m q g v w k v') (h2 : Step c m q g v w2 k2 v2) : w2 = w ∧ v2 = v' ∧ nI (q * k2) = nI (q * k) := by
  have z0 : Zi c (fun _ => 0) := fun _ _ => rfl
  have r0 : Rz c (fun _ => 0, fun _ => 0, 0) := ⟨z0, z0⟩
  obtain ⟨r', -, p1, e1, -⟩ := h.2.2.2.2.2.2.2.2.2 _ r0
  obtain ⟨r2, -, p2, e2, -⟩ := h2.2.2.2.2.2.2.2.2.2 _ r0
  have e := Option.some.inj (e1.symm.trans e2)
  simp only [Prod.mk.injEq] at e
  obtain ⟨a, b, c⟩ := e
  exact ⟨a.symm, c.symm, by rw [← p1, ← p2, b]⟩
def May (c m : Nat) (v : StV) : Prop := m ≤ 98 ∧ ∃ j, j < c ∧ St_inside v j = 1
theorem may_ok {c m q g : Nat} {v : StV} (h : Ok c m q g v) : (May c m v ∧ f_X3_mayPass v = some ((1:Int32), ())) ∨ (¬ May c m v ∧ f_X3_mayPass v = some ((0:Int32), ())) := by
  obtain ⟨h1, h2, h3, h4, h5, h6, h7, h8, h9, -⟩ := h.cnt
  obtain ⟨k, k1, k2, k3, k4⟩ := sI_bo h7 c
  have e := inside_n h1 (by omega) h7
  rw [k2] at e
  by_cases q1 : 99 ≤ m
  · refine Or.inr ⟨fun z => by have := z.1; omega, ?_⟩
    simp (disch := omega) only [f_X3_mayPass, h2, le99, q1, ↓reduceIte]
  · by_cases q2 : k = 0
    · refine Or.inr ⟨fun z => ?_, ?_⟩
      · obtain ⟨j, hj, e1⟩ := z.2
        rw [k3 q2 j hj] at e1
        exact absurd e1 (by decide)
      · simp (disch := omega) only [f_X3_mayPass, h2, le99, q1, e, bd_s, ge0, q2, Nat.le_refl, ↓reduceIte]
    · refine Or.inl ⟨⟨by omega, ?_⟩, ?_⟩
      · refine Classical.byContradiction fun z => q2 (k4 fun j hj => ?_)
        rcases h7 j with e1 | e1
        · exact e1
        · exact absurd ⟨j, hj, e1⟩ z
      · have q3 : ¬ k ≤ 0 := by omega
        simp (disch := omega) only [f_X3_mayPass, h2, le99, q1, e, bd_s, ge0, q3, ↓reduceIte]
/-- in which of the next n months it is i's turn -/
def Whe (c q g i : Nat) : Nat → Nat → StV → Int32 → Prop
  | 0, _, _, x => x = (-99999:Int32)
  | n + 1, m, v, x => (¬ May c m v ∧ x = (-99999:Int32)) ∨ (May c m v ∧ ∃ w k v', Step c m q g v w k v' ∧ ((w = nI i ∧ x = nI m) ∨ (¬ w = nI i ∧ Whe c q g i n (m + 1) v' x)))
theorem Whe.is {c q g i : Nat} : ∀ n m v x, Whe c q g i n m v x → x = (-99999:Int32) ∨ ∃ y, m ≤ y ∧ y ≤ 98 ∧ x = nI y
  | 0, m, v, x, h => Or.inl h
  | n + 1, m, v, x, h => by
    rcases h with ⟨-, h⟩ | ⟨hm, w, k, v', -, ⟨-, h⟩ | ⟨-, h⟩⟩
    · exact Or.inl h
    · exact Or.inr ⟨m, Nat.le_refl _, hm.1, h⟩
    · rcases Whe.is n _ _ _ h with e | ⟨y, h1, h2, h3⟩
      · exact Or.inl e
      · exact Or.inr ⟨y, by omega, h2, h3⟩
theorem Whe.more {c q g i : Nat} : ∀ n m v x n' x', Whe c q g i n m v x → ¬ x = (-99999:Int32) → n ≤ n' → Whe c q g i n' m v x' → x' = x
  | 0, m, v, x, n', x', h, hx, _, _ => absurd h hx
  | n + 1, m, v, x, 0, x', h, hx, hn, h' => by omega
  | n + 1, m, v, x, n' + 1, x', h, hx, hn, h' => by
    rcases h with ⟨-, h⟩ | ⟨hm, w, k, v', st, h⟩
    · exact absurd h hx
    · rcases h' with ⟨hm', -⟩ | ⟨-, w2, k2, v2, st2, h'⟩
      · exact absurd hm hm'
      · obtain ⟨rfl, rfl, -⟩ := st.det st2
        rcases h with ⟨e, h⟩ | ⟨e, h⟩
        · rcases h' with ⟨-, h'⟩ | ⟨e', -⟩
          · rw [h, h']
          · exact absurd e e'
        · rcases h' with ⟨e', -⟩ | ⟨-, h'⟩
          · exact absurd e' e
          · exact Whe.more n _ _ _ n' _ h hx (by omega) h'
theorem when_lp {c q g i : Nat} {v0 : StV} (h1 : 1 ≤ c) : ∀ n a m v r, n + a = 20 → Ok c m q g v → Rz c r → ∃ x e, lp (b_X5_when_18 v0 (nI i)) (n + 1) (nI a, v, r) = some e ∧ Whe c q g i n m v x ∧ ((∃ v2 r2, e = .inr (x, (v2, r2)) ∧ Z8 v2 ∧ Rz c r2) ∨ (x = (-99999:Int32) ∧ ∃ y v2 r2, e = .inl (y, v2, r2) ∧ Z8 v2 ∧ Rz c r2))
  | 0, a, m, v, r, ha, ok, hr => by
    have : a = 20 := by omega
    subst this
    have e20 : (20:Int32) ≤ nI 20 := by decide
    refine ⟨(-99999:Int32), .inl (nI 20, v, r), lp_out ?_, rfl, Or.inr ⟨rfl, _, v, r, rfl, ok.z, hr⟩⟩
    simp only [b_X5_when_18, e20, ↓reduceIte]
  | n + 1, a, m, v, r, ha, ok, hr => by
    have n20 : ¬ (20:Int32) ≤ nI a := fun z => by have := (nI_lei (a := 20) (by omega) (by omega)).mp z; omega
    rcases may_ok ok with ⟨hm, e1⟩ | ⟨hm, e1⟩
    · obtain ⟨w, k, v', st⟩ := month_step ok h1 hm.1
      obtain ⟨r', zr, -, e2, -⟩ := st.2.2.2.2.2.2.2.2.2 r hr
      have mo := ok.cnt.2.1
      by_cases q : w = nI i
      · refine ⟨nI m, .inr (nI m, (v', r')), lp_out ?_, Or.inr ⟨hm, w, k, v', st, Or.inl ⟨q, rfl⟩⟩, Or.inl ⟨v', r', rfl, st.1.z, zr⟩⟩
        simp only [b_X5_when_18, n20, e1, bd_s, o_ne, mo, lt_e, e2, q, ↓reduceIte]
      · obtain ⟨x, e, a1, a2, a3⟩ := when_lp (i := i) (v0 := v0) h1 n (a + 1) (m + 1) v' r' (by omega) st.1 zr
        refine ⟨x, e, ?_, Or.inr ⟨hm, w, k, v', st, Or.inr ⟨q, a2⟩⟩, a3⟩
        rw [← a1]
        refine lp_in ?_
        simp only [b_X5_when_18, n20, e1, bd_s, o_ne, mo, lt_e, e2, q, nI_s1, ↓reduceIte]
    · refine ⟨(-99999:Int32), .inl (nI a, v, r), lp_out ?_, Or.inl ⟨hm, rfl⟩, Or.inr ⟨rfl, _, v, r, rfl, ok.z, hr⟩⟩
      simp only [b_X5_when_18, n20, e1, bd_s, ↓reduceIte]
theorem lp_FU {S E : Type} {b : S → Option (S ⊕ E)} {n : Nat} {s : S} {e : E} (hn : n ≤ 1000000) (h : lp b n s = some e) : lp b FU s = some e := lp_mono n FU s e hn h
theorem when_ok {c m q g i : Nat} {v : StV} (ok : Ok c m q g v) (h1 : 1 ≤ c) (hic : i < c) {t : StV} (zt : Z8 t) {r : RdV} (hr : Rz c r) : ∃ x t' r', f_X5_when v t r (nI i) = some (x, (t', r')) ∧ Whe c q g i 20 m v x ∧ Z8 t' ∧ Rz c r' := by
  obtain ⟨x, e, a1, a2, a3⟩ := when_lp (i := i) (v0 := v) h1 20 0 m v r rfl ok hr
  have a1 := lp_FU (by omega) a1
  have a1 : lp (b_X5_when_18 v (nI i)) FU ((0:Int32), v, r) = _ := a1
  have rq := req (n := c) ok.cnt.1 hic (by have := ok.cnt.2.2.2.2.2.2.2.1; omega)
  rcases a3 with ⟨v2, r2, rfl, b1, b2⟩ | ⟨rfl, y, v2, r2, rfl, b1, b2⟩
  · refine ⟨x, v2, r2, ?_, a2, b1, b2⟩
    simp only [f_X5_when, rq, copy_is ok.z zt, bd_s, a1, el]
  · refine ⟨(-99999:Int32), v2, r2, ?_, a2, b1, b2⟩
    simp only [f_X5_when, rq, copy_is ok.z zt, bd_s, a1, el]
/-- waiting members -/
def Wai (c : Nat) (v : StV) : Prop := ∃ j, j < c ∧ St_inside v j = 1 ∧ St_taken v j = 0
theorem wai_ok {c m q g : Nat} {v : StV} (h : Ok c m q g v) : ∃ k, k ≤ 7 ∧ f_X3_countWaiting v = some (nI k, ()) ∧ (0 < k ↔ Wai c v) := by
  obtain ⟨h1, h2, h3, h4, h5, h6, h7, h8, h9, -⟩ := h.cnt
  obtain ⟨k, k1, k2, k3, k4⟩ := sI_bo (wt_bo (St_inside v) (St_taken v)) c
  have e := waiting_n h1 (by omega)
  rw [k2] at e
  refine ⟨k, by omega, e, fun hk => ?_, fun ⟨j, hj, e1, e2⟩ => ?_⟩
  · refine Classical.byContradiction fun z => ?_
    have : k = 0 := k4 fun j hj => by
      unfold wt
      rcases h7 j with e1 | e1
      · rw [if_pos e1]
      · rw [if_neg (by rw [e1]; decide)]
        rcases h6 j with e2 | e2
        · exact absurd ⟨j, hj, e1, e2⟩ z
        · rw [if_neg (by rw [e2]; decide)]
    omega
  · refine Nat.pos_of_ne_zero fun z => ?_
    have := k3 z j hj
    unfold wt at this
    rw [if_neg (by rw [e1]; decide), if_pos e2] at this
    exact absurd this (by decide)
/-- where it ends -/
def Enq (c q g : Nat) : Nat → Nat → StV → StV → Prop
  | 0, _, v, u => u = v
  | n + 1, m, v, u => ((¬ Wai c v ∨ ¬ May c m v) ∧ u = v) ∨ (Wai c v ∧ May c m v ∧ ∃ w k v', Step c m q g v w k v' ∧ Enq c q g n (m + 1) v' u)
theorem end_lp {c q g : Nat} {v0 : StV} {i : Int32} (h1 : 1 ≤ c) : ∀ n a m v r, n + a = 20 → Ok c m q g v → Rz c r → ∃ y u r2, lp (b_X5_inTheEnd_18 v0 i) (n + 1) (nI a, v, r) = some (y, u, r2) ∧ Enq c q g n m v u ∧ Z8 u ∧ Rz c r2
  | 0, a, m, v, r, ha, ok, hr => by
    have : a = 20 := by omega
    subst this
    have e20 : (20:Int32) ≤ nI 20 := by decide
    refine ⟨nI 20, v, r, lp_out ?_, rfl, ok.z, hr⟩
    simp only [b_X5_inTheEnd_18, e20, ↓reduceIte]
  | n + 1, a, m, v, r, ha, ok, hr => by
    have n20 : ¬ (20:Int32) ≤ nI a := fun z => by have := (nI_lei (a := 20) (by omega) (by omega)).mp z; omega
    obtain ⟨kw, kw7, e0, kwi⟩ := wai_ok ok
    by_cases q0 : Wai c v
    · have k0 : ¬ kw ≤ 0 := by have := kwi.mpr q0; omega
      rcases may_ok ok with ⟨hm, e1⟩ | ⟨hm, e1⟩
      · obtain ⟨w, k, v', st⟩ := month_step ok h1 hm.1
        obtain ⟨r', zr, -, e2, -⟩ := st.2.2.2.2.2.2.2.2.2 r hr
        obtain ⟨y, u, r2, a1, a2, a3, a4⟩ := end_lp (v0 := v0) (i := i) h1 n (a + 1) (m + 1) v' r' (by omega) st.1 zr
        refine ⟨y, u, r2, ?_, Or.inr ⟨q0, hm, w, k, v', st, a2⟩, a3, a4⟩
        rw [← a1]
        refine lp_in ?_
        simp (disch := omega) only [b_X5_inTheEnd_18, n20, e0, ge0, k0, e1, bd_s, o_ne, lt_e, e2, nI_s1, ↓reduceIte]
      · refine ⟨nI a, v, r, lp_out ?_, Or.inl ⟨Or.inr hm, rfl⟩, ok.z, hr⟩
        simp (disch := omega) only [b_X5_inTheEnd_18, n20, e0, ge0, k0, e1, bd_s, ↓reduceIte]
    · have k0 : kw ≤ 0 := by
        have : ¬ 0 < kw := fun z => q0 (kwi.mp z)
        omega
      refine ⟨nI a, v, r, lp_out ?_, Or.inl ⟨Or.inl q0, rfl⟩, ok.z, hr⟩
      simp (disch := omega) only [b_X5_inTheEnd_18, n20, e0, ge0, k0, bd_s, ↓reduceIte]
theorem end_ok {c m q g i : Nat} {v : StV} (ok : Ok c m q g v) (h1 : 1 ≤ c) (hic : i < c) {t : StV} (zt : Z8 t) {r : RdV} (hr : Rz c r) : ∃ u r', f_X5_inTheEnd v t r (nI i) = some (St_purse u i, (u, r')) ∧ Enq c q g 20 m v u ∧ Z8 u ∧ Rz c r' := by
  obtain ⟨y, u, r2, a1, a2, a3, a4⟩ := end_lp (v0 := v) (i := nI i) h1 20 0 m v r rfl ok hr
  have a1 := lp_FU (by omega) a1
  have a1 : lp (b_X5_inTheEnd_18 v (nI i)) FU ((0:Int32), v, r) = _ := a1
  have c8 : c ≤ 7 := ok.cnt.2.2.2.2.2.2.2.1
  refine ⟨u, r2, ?_, a2, a3, a4⟩
  simp (disch := omega) only [f_X5_inTheEnd, req (n := c) ok.cnt.1 hic (by omega), copy_is ok.z zt, bd_s, a1, gi_ok, nI_clamp]
end
section
/-! a month of the law, and what was told of it -/
theorem pot_ok {c m q g : Nat} {v : StV} {w : Int32} {k : Nat} {v' : StV} (h : Ok c m q g v) (s : Step c m q g v w k v') {t : StV} (zt : Z8 t) {r : RdV} (hr : Rz c r) : ∃ v1 r', f_X5_pot v t r = some (nI (q * k), (v1, r')) ∧ Z8 v1 ∧ Rz c r' := by
  have z := h.z
  obtain ⟨r1, -, p1, -, v2, e2⟩ := s.2.2.2.2.2.2.2.2.2 r hr
  obtain ⟨B, P, gu, b, aw, ta, ins, F, O, G, H, S, D, rfl, ok⟩ := h
  obtain ⟨pd', mg', k', P1, F1, O1, S1, D1, hk, hmg, zp, zm, hz8, hpay⟩ := pay_all ok
  have e3 := hpay r hr b
  have e := Option.some.inj (e2.symm.trans e3)
  simp only [Prod.mk.injEq, true_and] at e
  have p1 : nI (q * k') = nI (q * k) := by rw [← p1, e.1]
  refine ⟨(nI c, nI m, nI q, nI B, nI g, nf P1, gu, nf b, aw, ta, ins, nf F1, nf O1, nf G, nf H, nf S1, nf D1), (pd', mg', nI (q * k')), ?_, hz8 _ ok.2.2.2.2.2.2.2.2.2.2.2.2.1, zp, zm⟩
  simp only [f_X5_pot, copy_is z zt, bd_s, e3, St_count, St_month, St_contribution, St_box, St_given, St_purse, St_guarantor, St_bid, St_away, St_taken, St_inside, St_paidForItself, St_paidForOthers, St_gotOfPot, St_shares, St_misses, St_debt, St_count_s, St_month_s, St_contribution_s, St_box_s, St_given_s, St_purse_s, St_guarantor_s, St_bid_s, St_away_s, St_taken_s, St_inside_s, St_paidForItself_s, St_paidForOthers_s, St_gotOfPot_s, St_shares_s, St_misses_s, St_debt_s, Rd_paid, Rd_missing, Rd_pence, Rd_paid_s, Rd_missing_s, Rd_pence_s, p1]
theorem change_ok {c m q g i : Nat} {v : StV} {w : Int32} {k : Nat} {v' : StV} (h : Ok c m q g v) (s : Step c m q g v w k v') (hic : i < c) {t : StV} (zt : Z8 t) {r : RdV} (hr : Rz c r) : ∃ r', f_X5_change v t r (nI i) = some (St_purse v' i - St_purse v i, (v', r')) ∧ Rz c r' := by
  obtain ⟨r', h1, -, h2, -⟩ := s.2.2.2.2.2.2.2.2.2 r hr
  have c8 : c ≤ 7 := h.cnt.2.2.2.2.2.2.2.1
  refine ⟨r', ?_, h1⟩
  simp (disch := omega) only [f_X5_change, req (n := c) h.cnt.1 hic (by omega), copy_is h.z zt, bd_s, h2, gi_ok, nI_clamp, lt_e]
theorem month_ok {c m q g : Nat} {v : StV} {w : Int32} {k : Nat} {v' : StV} {p : PaV} {l : List StV} (h : Ok c m q g v) (s : Step c m q g v w k v') (hm : May c m v) {r : RdV} (hr : Rz c r) (tp : Top p l) (hl : l.length ≤ 13) : ∃ r' p', f_X5_month v r p = some (w, (v', r', p')) ∧ Rz c r' ∧ Top p' (v :: l) := by
  obtain ⟨r', h1, -, h2, -⟩ := s.2.2.2.2.2.2.2.2.2 r hr
  obtain ⟨p', e, t⟩ := tp.remember hl h.z
  rcases may_ok h with ⟨-, e1⟩ | ⟨n, -⟩
  · exact ⟨r', p', by simp only [f_X5_month, e1, bd_s, o_ne, e, h2, ↓reduceIte], h1, t⟩
  · exact absurd hm n
theorem back_add (x y : Int32) : x + (y - x) = y := by rw [Int32.add_comm, Int32.sub_add_cancel]
theorem add_back (x y : Int32) : x + y - x = y := by rw [Int32.add_comm, Int32.add_sub_cancel]
theorem p8 (i : Nat) : (8:Int32) + nI i = nI (8 + i) := q_add 8 i
theorem none_le {m : Nat} (hm : m ≤ 1000) : (-99999:Int32) ≤ nI m := Int32.le_of_lt (Int32.lt_of_lt_of_le (by decide : (-99999:Int32) < 0) ((nI_lei (a := 0) (by omega) (by omega)).mpr (by omega)))
theorem lawMonth {c m q g : Nat} {v : StV} (ok : Ok c m q g v) (h1 : 1 ≤ c) (hm : m ≤ 98) {t : StV} (zt : Z8 t) {r : RdV} (hr : Rz c r) {p : PaV} {l : List StV} (tp : Top p l) (hl : l.length ≤ 13) (ar : ArV) : ∃ v' t' r' p' ar' m', f_L_month v t r p ar (nI c) = some ((1:Int32), (v', t', r', p', ar')) ∧ Z8 t' ∧ Rz c r' ∧ Top p' [] ∧ Ok c m' q g v' ∧ m' ≤ m + 1 ∧ PB c v' := by
  obtain ⟨w, k, v', st⟩ := month_step ok h1 hm
  obtain ⟨hc, hmo, hco, hgv, ba, bt, bi, c8, m9, q1, q20⟩ := ok.cnt
  obtain ⟨ok', k14, s1, ⟨d, d7, s2⟩, s3, s4, s5, s6, s7, -⟩ := id st
  obtain ⟨hc', hmo', hco', hgv', ba', bt', bi', -, -, -, -⟩ := ok'.cnt
  have tq : q * k ≤ 20 * 14 := Nat.mul_le_mul q20 k14
  obtain ⟨r1, a1, zr1, zv'⟩ := winner_ok ok st zt hr
  obtain ⟨v1, r2, a2, z1, zr2⟩ := pot_ok ok st zv' zr1
  have a3 : f_X5_about v (4:Int32) = some (St_box v, ()) := ab_4
  have b10 : f_L_sum v (nI c) (10:Int32) = some (sI c (St_misses v), ()) := sum_row (by omega) (fun i hi => mem_10 hc hi (by omega))
  have b6 : f_L_sum v (nI c) (6:Int32) = some (sI c (St_paidForItself v), ()) := sum_row (by omega) (fun i hi => mem_6 hc hi (by omega))
  have b7 : f_L_sum v (nI c) (7:Int32) = some (sI c (St_paidForOthers v), ()) := sum_row (by omega) (fun i hi => mem_7 hc hi (by omega))
  have told : ∀ (p3 p4 p5 p6 p7 : Int32), One (lp (b_L_month_47 v p (nI c) p3 p4 p5 p6 p7) FU ((0:Int32), v1, r2, ar)) (fun e => ∃ t3 r3 ar3, e = (nI c, t3, r3, ar3) ∧ Z8 t3 ∧ Rz c r3 ∧ ∀ j, j < c → (Ar_row ar3 j = St_purse v' j ∧ Whe c q g j 20 m v (Ar_row ar3 (8 + j)))) := by
    intro p3 p4 p5 p6 p7
    refine lp_one (fun n s => ∃ i t3 r3 ar3, s = (nI i, t3, r3, ar3) ∧ i ≤ c ∧ n = c - i ∧ Z8 t3 ∧ Rz c r3 ∧ ∀ j, j < i → (Ar_row ar3 j = St_purse v' j ∧ Whe c q g j 20 m v (Ar_row ar3 (8 + j)))) _ ?_ (n := c) ⟨0, v1, r2, ar, rfl, by omega, by omega, z1, zr2, fun j hj => by omega⟩ (FU_gt (by omega))
    rintro n s ⟨i, t3, r3, ar3, rfl, h2, rfl, h3, h4, h5⟩ J hJ
    by_cases e : i = c
    · subst e
      simp (disch := omega) only [b_L_month_47, nI_lei, Nat.le_refl, ↓reduceIte]
      exact ⟨t3, r3, ar3, rfl, h3, h4, h5⟩
    · have ni : ¬ c ≤ i := by omega
      have hi : i < c := by omega
      have e0 := mem_0 hc hi (by omega)
      obtain ⟨r4, e1, z4⟩ := change_ok ok st hi h3 h4
      obtain ⟨x, t5, r5, e2, wh, z5, zr5⟩ := when_ok (i := i) ok h1 hi zv' z4
      simp (disch := omega) only [b_L_month_47, nI_lei, ni, e0, e1, e2, bd_s, p8, gi_ok, nI_clamp, lt_e, nI_s1, back_add, Ar_row, Ar_row_s, ↓reduceIte]
      refine hJ _ _ (by omega) ⟨i + 1, t5, r5, _, rfl, by omega, rfl, z5, zr5, fun j hj => ?_⟩
      show (upd (upd ar3 i (St_purse v' i)) (8 + i) x j = _) ∧ Whe c q g j 20 m v (upd (upd ar3 i (St_purse v' i)) (8 + i) x (8 + j))
      by_cases q9 : j = i
      · subst q9
        rw [upd_ne (by omega), upd_same, upd_same]
        exact ⟨rfl, wh⟩
      · rw [upd_ne (by omega), upd_ne q9, upd_ne (by omega), upd_ne (by omega)]
        exact h5 j (by omega)
  obtain ⟨e, e1, t3, r3, ar3, rfl, z3, zr3, hh⟩ := on_get (told w (nI (q * k)) (St_box v) (sI c (St_misses v)) (sI c (St_paidForItself v) + sI c (St_paidForOthers v)))
  have a4 : f_X5_about v (2:Int32) = some (nI m, ()) := by rw [← hmo]; exact ab_2
  obtain ⟨ki, k1, k2, k3, k4⟩ := sI_bo bi c
  have a5 : f_X5_about v (1:Int32) = some (nI ki, ()) := by rw [← k2]; exact ab_1 hc (by omega) bi
  by_cases q0 : ki = 0
  · -- nobody is inside
    have no : ¬ ∃ j, j < c ∧ St_inside v j = 1 := fun ⟨j, hj, z⟩ => by rw [k3 q0 j hj] at z; exact absurd z (by decide)
    rcases s6 with z | ⟨z1, z2⟩
    · exact absurd z no
    · have z00 : nI (q * k) = (0:Int32) := by rw [z1]; rfl
      have z01 : nI ki = (0:Int32) := by rw [q0]; rfl
      refine ⟨v, t3, r3, p, ar3, m, ?_, z3, zr3, tp.nil, ok, by omega, fun j hj z _ => absurd ⟨j, hj, z⟩ no⟩
      rw [f_L_month, bd_r a1, bd_r a2, bd_r a3, bd_r b10, bd_r b6, bd_r b7, lt_e, bd_r e1, bd_r a4, bd_r a5, if_pos z01, if_pos z2, if_pos z00]
  · have may : May c m v := ⟨hm, Classical.byContradiction fun z => q0 (k4 fun j hj => by
      rcases bi j with e | e
      · exact e
      · exact absurd ⟨j, hj, e⟩ z)⟩
    have n01 : ¬ nI ki = (0:Int32) := fun z => q0 ((eq0 (by omega)).mp z)
    obtain ⟨r6, p6, e6, zr6, tp6⟩ := month_ok ok st may zr3 tp hl
    have a6 : f_X5_about v' (2:Int32) = some (nI (m + 1), ()) := by rw [← hmo']; exact ab_2
    have b6' : f_L_sum v' (nI c) (6:Int32) = some (sI c (St_paidForItself v'), ()) := sum_row (by omega) (fun i hi => mem_6 hc' hi (by omega))
    have b7' : f_L_sum v' (nI c) (7:Int32) = some (sI c (St_paidForOthers v'), ()) := sum_row (by omega) (fun i hi => mem_7 hc' hi (by omega))
    have b10' : f_L_sum v' (nI c) (10:Int32) = some (sI c (St_misses v'), ()) := sum_row (by omega) (fun i hi => mem_10 hc' hi (by omega))
    have sz : sI c (fun _ => (0:Int32)) = 0 := by
      have := sI_nf c (fun _ => 0)
      rw [su_zero] at this
      exact this
    have b2' : f_L_sum v' (nI c) (2:Int32) = some ((0:Int32), ()) := by rw [← sz, ← s3]; exact sum_row (by omega) (fun i hi => mem_2 hc' hi (by omega))
    have b3' : f_L_sum v' (nI c) (3:Int32) = some ((0:Int32), ()) := by rw [← sz, ← s4]; exact sum_row (by omega) (fun i hi => mem_3 hc' hi (by omega) ba')
    have a7 : f_X5_about v' (3:Int32) = some (nI q, ()) := by rw [← hco']; exact ab_3
    have nq : ¬ nI q = 0 := fun z => by have := (nI_inj (b := 0) (by omega) (by omega)).mp z; omega
    have rem : nI (q * k) - nI (q * k) / nI q * nI q = (0:Int32) := by
      rw [nI_rem (by omega) (by omega), Nat.mul_mod_right]
      rfl
    have pbz : PB c v' := fun j _ _ _ => by rw [s3]
    have again : ∀ (p5 p9 : Int32), One (lp (b_L_month_201 v' p6 ar3 (nI c) (nI (q * k)) p5 p9 (nI m) w) FU ((0:Int32), t3, r6)) (fun e => ∃ t9 r9, e = .inl (nI c, t9, r9) ∧ Z8 t9 ∧ Rz c r9) := by
      intro p5 p9
      refine lp_one (fun n s => ∃ i t9 r9, s = (nI i, t9, r9) ∧ i ≤ c ∧ n = c - i ∧ Z8 t9 ∧ Rz c r9) _ ?_ (n := c) ⟨0, t3, r6, rfl, by omega, by omega, z3, zr6⟩ (FU_gt (by omega))
      rintro n s ⟨i, t9, r9, rfl, h2, rfl, h3, h4⟩ J hJ
      by_cases e : i = c
      · subst e
        simp (disch := omega) only [b_L_month_201, nI_lei, Nat.le_refl, ↓reduceIte]
        exact ⟨t9, r9, rfl, h3, h4⟩
      · have ni : ¬ c ≤ i := by omega
        have hi : i < c := by omega
        have e0 := mem_0 hc' hi (by omega)
        obtain ⟨f1, f2⟩ := hh i hi
        have next : J (nI (i + 1), t9, r9) := hJ _ _ (by omega) ⟨i + 1, t9, r9, rfl, by omega, rfl, h3, h4⟩
        rcases f2 with ⟨z, -⟩ | ⟨-, w2, k2, v2, st2, f2⟩
        · exact absurd may z
        · obtain ⟨rfl, rfl, -⟩ := st.det st2
          rcases f2 with ⟨q5, q6⟩ | ⟨q5, f2⟩
          · have le : nI m ≤ nI m := Int32.le_refl _
            simp (disch := omega) only [b_L_month_201, nI_lei, ni, e0, bd_s, p8, gi_ok, nI_clamp, f1, q6, q5, le, lt_e, nI_s1, ↓reduceIte]
            first | exact next | (simp only [le, ↓reduceIte]; exact next)
          · have q5' : ¬ nI i = w2 := fun z => q5 z.symm
            have fis := Whe.is _ _ _ _ f2
            by_cases q7 : Ar_row ar3 (8 + i) = (-99999:Int32)
            · have ne : ¬ (-99999:Int32) = nI m := fun z => (nI_neg (by omega)).mp z.symm
              have le := none_le (m := m) (by omega)
              simp (disch := omega) only [b_L_month_201, nI_lei, ni, e0, bd_s, p8, gi_ok, nI_clamp, f1, q7, ne, q5', le, lt_e, nI_s1, ↓reduceIte]
              exact next
            · rcases fis with z | ⟨y, y1, y2, y3⟩
              · exact absurd z q7
              · have ne : ¬ Ar_row ar3 (8 + i) = nI m := fun z => by
                  have := (nI_inj (by omega) (by omega)).mp (y3.symm.trans z); omega
                have nle : ¬ Ar_row ar3 (8 + i) ≤ nI m := fun z => by
                  rw [y3] at z
                  have := (nI_lei (by omega) (by omega)).mp z; omega
                obtain ⟨x, t5, r5, e2, wh, z5, zr5⟩ := when_ok (i := i) ok' h1 hi h3 h4
                have xe : x = Ar_row ar3 (8 + i) := f2.more 19 _ _ _ 20 _ q7 (by omega) wh
                subst xe
                simp (disch := omega) only [b_L_month_201, nI_lei, ni, e0, bd_s, p8, gi_ok, nI_clamp, f1, ne, q5', nle, e2, lt_e, nI_s1, ↓reduceIte]
                exact hJ _ _ (by omega) ⟨i + 1, t5, r5, rfl, by omega, rfl, z5, zr5⟩
    obtain ⟨e, e8, t9, r9, rfl, z9, zr9⟩ := on_get (again (St_box v) (sI c (St_misses v)))
    have a8 : f_X5_about v' (4:Int32) = some (St_box v', ()) := ab_4
    have m1 : nI m + (1:Int32) = nI (m + 1) := nI_s1 m
    have z0 : (0:Int32) + 0 = 0 := by decide
    rcases s7 with ⟨w0, s7⟩ | ⟨W, x, hW, w0, s8, s9, s10, s11⟩
    · subst w0
      refine ⟨v', t9, r9, p6, ar3, m + 1, ?_, z9, zr9, tp6.nil, ok', by omega, pbz⟩
      rw [f_L_month, bd_r a1, bd_r a2, bd_r a3, bd_r b10, bd_r b6, bd_r b7, lt_e, bd_r e1, bd_r a4, bd_r a5, if_neg n01, bd_r e6, if_pos rfl, bd_r a6, if_pos m1.symm, bd_r b6', bd_r b7', if_pos s1, bd_r a7, gz, if_neg nq, if_pos rem, bd_r b2', bd_r b3', if_pos z0, bd_r e8, el_in, if_pos rfl, bd_r a8, if_pos s7]
    · subst w0
      have nn : ¬ nI W = (-99999:Int32) := fun z => (nI_neg (by omega)).mp z
      have m4 : f_X5_member v' (nI W) (4:Int32) = some ((1:Int32), ()) := by rw [← s8]; exact mem_4 hc' hW (by omega) bt'
      have m8 : f_X5_member v' (nI W) (8:Int32) = some (nI x, ()) := by rw [← s9]; exact mem_8 hc' hW (by omega)
      have n1 : ¬ nI (q * k) < nI x := fun z => by have := (nI_lti (by omega) (by omega)).mp z; omega
      have n2 : ¬ (2:Int32) * nI x < nI (q * k) := fun z => by
        have e : (2:Int32) * nI x = nI (2 * x) := q_mul 2 x
        rw [e] at z
        have := (nI_lti (by omega) (by omega)).mp z; omega
      have lb : ∃ t10 r10, f_X5_leastBid v' t9 r9 (nI W) = some ((-99999:Int32), (t10, r10)) ∧ Z8 t10 ∧ Rz c r10 := by
        obtain ⟨B, P, gu, b, aw, ta, ins, F, O, G, H, S, D, rfl, okw⟩ := ok'
        obtain ⟨pd', mg', k', P1, F1, O1, S1, D1, hk, hmg, zp, zm, hz8, hpay⟩ := pay_all okw
        obtain ⟨y, t1, e1, z1, hx⟩ := leastBid_ok okw h1 hW hk hmg zp zm hz8 hpay z9 zr9
        rcases hx with ⟨rfl, -⟩ | ⟨n, -, -, hw, -⟩
        · exact ⟨_, _, e1, z1, zp, zm⟩
        · have := hw.can h1 (by omega) hW
          rw [cnT_no (Or.inr (Or.inr s8))] at this
          cases this
      obtain ⟨t10, r10, e10, z10, zr10⟩ := lb
      have n3 : ¬ nI d < (0:Int32) := fun z => (nI_nn (by omega)).mp z
      refine ⟨v', t10, r10, p6, ar3, m + 1, ?_, z10, zr10, tp6.nil, ok', by omega, pbz⟩
      rw [f_L_month, bd_r a1, bd_r a2, bd_r a3, bd_r b10, bd_r b6, bd_r b7, lt_e, bd_r e1, bd_r a4, bd_r a5, if_neg n01, bd_r e6, if_pos rfl, bd_r a6, if_pos m1.symm, bd_r b6', bd_r b7', if_pos s1, bd_r a7, gz, if_neg nq, if_pos rem, bd_r b2', bd_r b3', if_pos z0, bd_r e8, el_in, if_neg nn, bd_r m4, if_pos rfl, bd_r m8, if_neg n1, bd_r m8, if_neg n2, bd_r e10, if_pos rfl, bd_r b10', if_neg (show ¬ sI c (St_misses v') - sI c (St_misses v) < 0 from by rw [s2, add_back]; exact n3)]
end
section
/-! the end, as the law tries it -/
def fin (v : StV) : List StV → StV
  | [] => v
  | x :: l => fin x l
theorem fin_cons (v x : StV) (l : List StV) : fin v (x :: l) = fin x l := (fun (_ : True) => rfl) trivial
theorem pos_nI {k : Nat} (hk : k ≤ 1000) : (0:Int32) < nI k ↔ 0 < k := nI_lti (a := 0) (by omega) (by omega)
theorem lawEnd {c m q g i : Nat} {v : StV} (ok : Ok c m q g v) (h1 : 1 ≤ c) (hm : m ≤ 86) (hic : i < c) (pb : PB c v) {t : StV} (zt : Z8 t) {r : RdV} (hr : Rz c r) {p : PaV} (tp : Top p []) : ∃ v' t' r' p' m', f_L_inTheEnd v t r p (nI i) = some ((1:Int32), (v', t', r', p')) ∧ Z8 t' ∧ Rz c r' ∧ Top p' [] ∧ Ok c m' q g v' ∧ m' ≤ m + 12 ∧ PB c v' := by
  obtain ⟨u, r1, e1, en, zu, zr1⟩ := end_ok (i := i) ok h1 hic zt hr
  have c8 : c ≤ 7 := ok.cnt.2.2.2.2.2.2.2.1
  -- the months
  have months : One (lp (b_L_inTheEnd_8 u (nI i) (St_purse u i)) FU ((0:Int32), v, r1, p)) (fun e => ∃ k v2 r2 p2 l, e = (nI k, v2, r2, p2) ∧ k ≤ 12 ∧ Ok c (m + k) q g v2 ∧ Rz c r2 ∧ Top p2 l ∧ l.length = k ∧ fin v2 l = v ∧ PB c v2 ∧ (k = 12 ∨ (¬ Wai c v2 ∧ u = v2))) := by
    refine lp_one (fun n s => ∃ k v2 r2 p2 l, s = (nI k, v2, r2, p2) ∧ k ≤ 12 ∧ n = 12 - k ∧ Ok c (m + k) q g v2 ∧ Rz c r2 ∧ Top p2 l ∧ l.length = k ∧ fin v2 l = v ∧ PB c v2 ∧ Enq c q g (20 - k) (m + k) v2 u) _ ?_ (n := 12) ⟨0, v, r1, p, [], rfl, by omega, by omega, ok, zr1, tp, rfl, rfl, pb, en⟩ (FU_gt (by omega))
    rintro n s ⟨k, v2, r2, p2, l, rfl, h2, rfl, h3, h4, h5, h6, h7, h8, h9⟩ J hJ
    by_cases e : k = 12
    · subst e
      have e12 : (12:Int32) ≤ nI 12 := by decide
      simp only [b_L_inTheEnd_8, e12, ↓reduceIte]
      exact ⟨12, v2, r2, p2, l, rfl, by omega, h3, h4, h5, h6, h7, h8, Or.inl rfl⟩
    · have n12 : ¬ (12:Int32) ≤ nI k := fun z => by have := (nI_lei (a := 12) (by omega) (by omega)).mp z; omega
      obtain ⟨kw, kw7, w1, w2⟩ := wai_ok h3
      have a6 : f_X5_about v2 (6:Int32) = some (nI kw, ()) := by
        simp (decide := true) only [f_X5_about, w1, bd_s, ↓reduceIte]
      have k20 : 20 - k = (20 - (k + 1)) + 1 := by omega
      rw [k20] at h9
      by_cases q0 : Wai c v2
      · have k0 : ¬ kw ≤ 0 := by have := w2.mpr q0; omega
        obtain ⟨j, hj, i1, -⟩ := id q0
        have may : May c (m + k) v2 := ⟨by omega, j, hj, i1⟩
        obtain ⟨hc, -, -, -, -, -, bi, -⟩ := h3.cnt
        obtain ⟨ki, k1, k2, k3, k4⟩ := sI_bo bi c
        have a1 : f_X5_about v2 (1:Int32) = some (nI ki, ()) := by rw [← k2]; exact ab_1 hc (by omega) bi
        have ki0 : ¬ ki ≤ 0 := fun z => by
          have := k3 (by omega) j hj
          rw [i1] at this
          exact absurd this (by decide)
        rcases h9 with ⟨z | z, -⟩ | ⟨-, -, w, k9, v3, st, h9⟩
        · exact absurd q0 z
        · exact absurd may z
        · obtain ⟨r3, p3, e3, zr3, tp3⟩ := month_ok h3 st may h4 h5 (by omega)
          simp (disch := omega) only [b_L_inTheEnd_8, n12, a6, a1, ge0, k0, ki0, e3, bd_s, lt_e, nI_s1, ↓reduceIte]
          exact hJ _ _ (by omega) ⟨k + 1, v3, r3, p3, v2 :: l, rfl, by omega, rfl, st.1, zr3, tp3, by simp only [List.length_cons, h6], by rw [fin_cons]; exact h7, fun j _ _ _ => by rw [st.2.2.2.2.1], h9⟩
      · have k0 : kw ≤ 0 := by
          have : ¬ 0 < kw := fun z => q0 (w2.mp z)
          omega
        simp (disch := omega) only [b_L_inTheEnd_8, n12, a6, ge0, k0, bd_s, ↓reduceIte]
        refine ⟨k, v2, r2, p2, l, rfl, h2, h3, h4, h5, h6, h7, h8, Or.inr ⟨q0, ?_⟩⟩
        rcases h9 with ⟨-, z⟩ | ⟨z, -⟩
        · exact z
        · exact absurd z q0
  obtain ⟨e, e2, k, v2, r2, p2, l, rfl, k12, ok2, zr2, tp2, hl, hf, pb2, hk⟩ := on_get months
  obtain ⟨u2, r3, e3, en2, zu2, zr3⟩ := end_ok (i := i) ok2 h1 hic zu zr2
  obtain ⟨kw, kw7, w1, w2⟩ := wai_ok ok2
  have a6 : f_X5_about v2 (6:Int32) = some (nI kw, ()) := by
    simp (decide := true) only [f_X5_about, w1, bd_s, ↓reduceIte]
  have m0 : f_X5_member v2 (nI i) (0:Int32) = some (St_purse v2 i, ()) := mem_0 ok2.cnt.1 hic (by omega)
  -- undone, or not
  have undo1 : ∀ (t9 : StV) (r9 : RdV), ∃ p4, lp (b_L_inTheEnd_80 t9 r9 (nI k)) FU ((1:Int32), (0:Int32), v2, p2) = some ((1:Int32), nI k, v, p4) ∧ Top p4 [] := by
    intro t9 r9
    obtain ⟨e, e4, p4, rfl, tp4⟩ := on_get (lp_one (b := b_L_inTheEnd_80 t9 r9 (nI k)) (fun n s => ∃ j v4 p4 l4, s = ((1:Int32), nI j, v4, p4) ∧ j ≤ k ∧ n = k - j ∧ Z8 v4 ∧ Top p4 l4 ∧ l4.length = k - j ∧ fin v4 l4 = v) (fun e => ∃ p4, e = ((1:Int32), nI k, v, p4) ∧ Top p4 []) (by
      rintro n s ⟨j, v4, p4, l4, rfl, h2, rfl, h3, h4, h5, h6⟩ J hJ
      by_cases e : j = k
      · subst e
        have : l4 = [] := List.length_eq_zero_iff.mp (by omega)
        subst this
        simp (disch := omega) only [b_L_inTheEnd_80, nI_lei, Nat.le_refl, ↓reduceIte]
        have h6 : v4 = v := h6
        exact ⟨p4, by rw [h6], h4⟩
      · have nj : ¬ k ≤ j := by omega
        cases l4 with
        | nil => simp only [List.length_nil] at h5; omega
        | cons x l4 =>
          obtain ⟨s, p5, s1, e5, tp5⟩ := h4.undo h3
          have ns : ¬ nI s < (0:Int32) := fun z => (nI_nn (by omega)).mp z
          have zx : Z8 x := by
            obtain ⟨s, y, -, -, -, -, -, hz, hx⟩ := h4
            have := hx 0 x rfl
            rw [← this]; exact hz _
          simp only [List.length_cons] at h5
          simp (disch := omega) only [b_L_inTheEnd_80, nI_lei, nj, o_ne, e5, bd_s, ns, lt_e, nI_s1, ↓reduceIte]
          exact hJ _ _ (by omega) ⟨j + 1, x, p5, l4, rfl, by omega, rfl, zx, tp5, by omega, h6⟩) (n := k) (fu := FU) (s := ((1:Int32), (0:Int32), v2, p2)) ⟨0, v2, p2, l, rfl, by omega, by omega, ok2.z, tp2, by omega, hf⟩ (FU_gt (by omega)))
    exact ⟨p4, e4, tp4⟩
  have undo0 : ∀ (t9 : StV) (r9 : RdV), 0 < k → lp (b_L_inTheEnd_80 t9 r9 (nI k)) FU ((0:Int32), (0:Int32), v2, p2) = some ((0:Int32), (0:Int32), v2, p2) := by
    intro t9 r9 hk0
    have n0 : ¬ nI k ≤ (0:Int32) := fun z => by have := (ge0 (by omega)).mp z; omega
    refine lp_FU (n := 0 + 1) (by omega) (lp_out ?_)
    simp only [b_L_inTheEnd_80, n0, ↓reduceIte]
  obtain ⟨p4, e4, tp4⟩ := undo1 u2 r3
  rcases hk with hk | ⟨hw, hu⟩
  · subst hk
    have e12 : nI 12 = (12:Int32) := rfl
    have e5 := undo0 u2 r3 (by omega)
    rw [e12] at e2 e4 e5
    by_cases c1 : St_purse u2 i = St_purse u i
    · by_cases c2 : 0 < kw
      · have c2' : (0:Int32) < nI kw := (pos_nI (by omega)).mpr c2
        refine ⟨v, u2, r3, p4, m, ?_, zu2, zr3, tp4, ok, by omega, pb⟩
        simp only [f_L_inTheEnd, e1, e2, e3, bd_s, c1, a6, c2', e4, o_ne, ↓reduceIte]
      · have c2' : ¬ (0:Int32) < nI kw := fun z => c2 ((pos_nI (by omega)).mp z)
        by_cases c3 : St_purse v2 i = St_purse u i
        · refine ⟨v, u2, r3, p4, m, ?_, zu2, zr3, tp4, ok, by omega, pb⟩
          simp only [f_L_inTheEnd, e1, e2, e3, bd_s, c1, a6, c2', m0, c3, e4, o_ne, ↓reduceIte]
        · refine ⟨v2, u2, r3, p2, m + 12, ?_, zu2, zr3, tp2.nil, ok2, by omega, pb2⟩
          simp only [f_L_inTheEnd, e1, e2, e3, bd_s, c1, a6, c2', m0, c3, e5, ↓reduceIte]
    · refine ⟨v2, u2, r3, p2, m + 12, ?_, zu2, zr3, tp2.nil, ok2, by omega, pb2⟩
      simp only [f_L_inTheEnd, e1, e2, e3, bd_s, c1, e5, ↓reduceIte]
  · subst hu
    have c2 : ¬ (0:Int32) < nI kw := fun z => hw (w2.mp ((pos_nI (by omega)).mp z))
    have hu2 : u2 = u := by
      rcases en2 with ⟨-, z⟩ | ⟨z, -⟩
      · exact z
      · exact absurd z hw
    subst hu2
    refine ⟨v, u2, r3, p4, m, ?_, zu2, zr3, tp4, ok, by omega, pb⟩
    simp only [f_L_inTheEnd, e1, e2, e3, bd_s, a6, c2, m0, e4, o_ne, ↓reduceIte]
end
section
/-! bids and marks for a month; a circle is built -/
section PREP
variable {c m q B g : Nat} {P : Nat → Nat} {gu : Nat → Int32} {b : Nat → Nat} {aw ta ins : Nat → Int32} {F O G H S D : Nat → Nat}
theorem lawPrep {v : StV} (ok : Ok c m q g v) (pb : PB c v) {p : PaV} (tp : Top p []) (h : Int32) : ∃ v' p', f_L_prepare v p (nI c) h = some ((1:Int32), (v', p')) ∧ Ok c m q g v' ∧ Top p' [] := by
  have c8 : c ≤ 7 := ok.cnt.2.2.2.2.2.2.2.1
  have lo : One (lp (b_L_prepare_5 (nI c) h) FU ((1:Int32), (0:Int32), v, p)) (fun e => ∃ v' p', e = ((1:Int32), nI c, v', p') ∧ Ok c m q g v' ∧ Top p' []) := by
    refine lp_one (fun n s => ∃ i v' p', s = ((1:Int32), nI i, v', p') ∧ i ≤ c ∧ n = c - i ∧ Ok c m q g v' ∧ Top p' [] ∧ (∀ j, i ≤ j → j < c → St_inside v' j = 1 → St_taken v' j = 0 → St_bid v' j = 0)) _ ?_ (n := c) ⟨0, v, p, rfl, by omega, by omega, ok, tp, fun j _ hj => pb j hj⟩ (FU_gt (by omega))
    rintro n s ⟨i, v', p', rfl, h1, rfl, ok', tp', pb'⟩ J hJ
    by_cases e : i = c
    · subst e
      simp (disch := omega) only [b_L_prepare_5, nI_lei, Nat.le_refl, ↓reduceIte]
      exact ⟨v', p', rfl, ok', tp'⟩
    · have ni : ¬ c ≤ i := by omega
      have hic : i < c := by omega
      obtain ⟨B, P, gu, b, aw, ta, ins, F, O, G, H, S, D, rfl, okw⟩ := ok'
      obtain ⟨-, -, -, ha, ht, hi, -⟩ := id okw
      have hc : ∀ {b' : Nat → Nat} {aw' : Nat → Int32}, St_count (nI c, nI m, nI q, nI B, nI g, nf P, gu, nf b', aw', ta, ins, nf F, nf O, nf G, nf H, nf S, nf D) = nI c := fun {_ _} => rfl
      have m5 : f_X5_member (nI c, nI m, nI q, nI B, nI g, nf P, gu, nf b, aw, ta, ins, nf F, nf O, nf G, nf H, nf S, nf D) (nI i) (5:Int32) = some (ins i, ()) := mem_5 (n := c) hc hic (by omega) hi
      have m4 : f_X5_member (nI c, nI m, nI q, nI B, nI g, nf P, gu, nf b, aw, ta, ins, nf F, nf O, nf G, nf H, nf S, nf D) (nI i) (4:Int32) = some (ta i, ()) := mem_4 (n := c) hc hic (by omega) ht
      have m3 : ∀ {b' : Nat → Nat}, f_X5_member (nI c, nI m, nI q, nI B, nI g, nf P, gu, nf b', aw, ta, ins, nf F, nf O, nf G, nf H, nf S, nf D) (nI i) (3:Int32) = some (aw i, ()) := fun {b'} => mem_3 (n := c) hc hic (by omega) ha
      have m3' : ∀ {b' : Nat → Nat}, f_X5_member (nI c, nI m, nI q, nI B, nI g, nf P, gu, nf b', upd aw i 1, ta, ins, nf F, nf O, nf G, nf H, nf S, nf D) (nI i) (3:Int32) = some ((1:Int32), ()) := fun {b'} => (mem_3 (n := c) hc hic (by omega) (ha.upd (Or.inr rfl))).trans (by show some (upd aw i 1 i, ()) = _; rw [upd_same])
      have m2 : ∀ {x : Nat}, f_X5_member (nI c, nI m, nI q, nI B, nI g, nf P, gu, nf (un b i x), aw, ta, ins, nf F, nf O, nf G, nf H, nf S, nf D) (nI i) (2:Int32) = some (nI x, ()) := fun {x} => (mem_2 (n := c) hc hic (by omega)).trans (by show some (nf (un b i x) i, ()) = _; rw [nf_at, un_same])
      have later : ∀ {b' : Nat → Nat} {aw' : Nat → Int32} {p9 : PaV}, (b' = b ∨ ∃ x, b' = un b i x) → OkW c m q B g P gu b' aw' ta ins F O G H S D → Top p9 [] → J ((1:Int32), nI (i + 1), (nI c, nI m, nI q, nI B, nI g, nf P, gu, nf b', aw', ta, ins, nf F, nf O, nf G, nf H, nf S, nf D), p9) := fun {b' aw' p9} hb ok9 tp9 => hJ _ _ (by omega) ⟨i + 1, _, p9, rfl, by omega, rfl, ⟨B, P, gu, b', aw', ta, ins, F, O, G, H, S, D, rfl, ok9⟩, tp9, fun j hj hjc x1 x2 => by
        have e1 := pb' j (by omega) hjc x1 x2
        show nf b' j = 0
        rcases hb with rfl | ⟨x, rfl⟩
        · exact e1
        · rw [nf_at, un_ne (by omega)]; exact e1⟩
      obtain ⟨y, hy, e7⟩ := low_ok (h >>> (((3:Int32) * nI i) &&& 31) >>> ((2:Int32) &&& 31)) (k := 7) (by omega) (by omega)
      have e7 : f_L_low (h >>> (((3:Int32) * nI i) &&& 31) >>> ((2:Int32) &&& 31)) (7:Int32) = some (nI y, ()) := e7
      obtain ⟨z, hz, e2⟩ := low_ok (h >>> (((3:Int32) * nI i) &&& 31)) (k := 2) (by omega) (by omega)
      have e2 : f_L_low (h >>> (((3:Int32) * nI i) &&& 31)) (2:Int32) = some (nI z, ()) := e2
      obtain ⟨x, hx, e60⟩ := low_ok (h >>> (((3:Int32) * nI i) &&& 31) >>> ((1:Int32) &&& 31)) (k := 60) (by omega) (by omega)
      have e60 : f_L_low (h >>> (((3:Int32) * nI i) &&& 31) >>> ((1:Int32) &&& 31)) (60:Int32) = some (nI x, ()) := e60
      have nc : ¬ nI c ≤ nI i := fun z => ni ((nI_lei (by omega) (by omega)).mp z)
      have o1 : ¬ (1:Int32) = 0 := by decide
      rcases hi i with i1 | i1
      · have _u := trivial
        by_cases y0 : nI y = (0:Int32)
        · rcases ha i with a1 | a1
          · obtain ⟨p9, s1, s2, s3⟩ := away_ok okw tp' (by simp) hic a1
            rw [b_L_prepare_5, if_neg nc, if_neg o1, lt_e, bd_r m5, if_neg (show ¬ ins i = 1 from fun z => absurd (i1.symm.trans z) (by decide)), if_pos rfl, bd_r e7, if_pos y0, bd_r m3, if_pos a1, if_neg o1, bd_r s1, if_pos rfl, bd_r m3', if_pos rfl, lt_e, nI_s1]
            exact later (Or.inl rfl) s3 s2
          · rw [b_L_prepare_5, if_neg nc, if_neg o1, lt_e, bd_r m5, if_neg (show ¬ ins i = 1 from fun z => absurd (i1.symm.trans z) (by decide)), if_pos rfl, bd_r e7, if_pos y0, bd_r m3, if_neg (show ¬ aw i = 0 from fun z => absurd (a1.symm.trans z) (by decide)), lt_e, nI_s1]
            exact later (Or.inl rfl) okw tp'
        · rw [b_L_prepare_5, if_neg nc, if_neg o1, lt_e, bd_r m5, if_neg (show ¬ ins i = 1 from fun z => absurd (i1.symm.trans z) (by decide)), if_pos rfl, bd_r e7, if_neg y0, lt_e, nI_s1]
          exact later (Or.inl rfl) okw tp'
      · rcases ht i with i2 | i2
        · by_cases z0 : nI z = (0:Int32)
          · obtain ⟨p8, t1, t2, t3⟩ := bid_ok okw tp' (by simp) hic (n := x) (by omega) i1 i2
            have bz : nI (b i) = (0:Int32) := pb' i (Nat.le_refl _) hic i1 i2
            rw [bz] at t1
            by_cases y0 : nI y = (0:Int32)
            · rcases ha i with a1 | a1
              · obtain ⟨p9, s1, s2, s3⟩ := away_ok t3 t2.nil (by simp) hic a1
                rw [b_L_prepare_5, if_neg nc, if_neg o1, lt_e, bd_r m5, if_pos i1, bd_r m4, if_pos i2, if_neg o1, bd_r e2, if_pos z0, bd_r e60, bd_r t1, if_pos rfl, bd_r m2, if_pos rfl, bd_r e7, if_pos y0, bd_r m3, if_pos a1, if_neg o1, bd_r s1, if_pos rfl, bd_r m3', if_pos rfl, lt_e, nI_s1]
                exact later (Or.inr ⟨x, rfl⟩) s3 s2
              · rw [b_L_prepare_5, if_neg nc, if_neg o1, lt_e, bd_r m5, if_pos i1, bd_r m4, if_pos i2, if_neg o1, bd_r e2, if_pos z0, bd_r e60, bd_r t1, if_pos rfl, bd_r m2, if_pos rfl, bd_r e7, if_pos y0, bd_r m3, if_neg (show ¬ aw i = 0 from fun z => absurd (a1.symm.trans z) (by decide)), lt_e, nI_s1]
                exact later (Or.inr ⟨x, rfl⟩) t3 t2.nil
            · rw [b_L_prepare_5, if_neg nc, if_neg o1, lt_e, bd_r m5, if_pos i1, bd_r m4, if_pos i2, if_neg o1, bd_r e2, if_pos z0, bd_r e60, bd_r t1, if_pos rfl, bd_r m2, if_pos rfl, bd_r e7, if_neg y0, lt_e, nI_s1]
              exact later (Or.inr ⟨x, rfl⟩) t3 t2.nil
          · have _u := trivial
            by_cases y0 : nI y = (0:Int32)
            · rcases ha i with a1 | a1
              · obtain ⟨p9, s1, s2, s3⟩ := away_ok okw tp' (by simp) hic a1
                rw [b_L_prepare_5, if_neg nc, if_neg o1, lt_e, bd_r m5, if_pos i1, bd_r m4, if_pos i2, if_neg o1, bd_r e2, if_neg z0, bd_r e7, if_pos y0, bd_r m3, if_pos a1, if_neg o1, bd_r s1, if_pos rfl, bd_r m3', if_pos rfl, lt_e, nI_s1]
                exact later (Or.inl rfl) s3 s2
              · rw [b_L_prepare_5, if_neg nc, if_neg o1, lt_e, bd_r m5, if_pos i1, bd_r m4, if_pos i2, if_neg o1, bd_r e2, if_neg z0, bd_r e7, if_pos y0, bd_r m3, if_neg (show ¬ aw i = 0 from fun z => absurd (a1.symm.trans z) (by decide)), lt_e, nI_s1]
                exact later (Or.inl rfl) okw tp'
            · rw [b_L_prepare_5, if_neg nc, if_neg o1, lt_e, bd_r m5, if_pos i1, bd_r m4, if_pos i2, if_neg o1, bd_r e2, if_neg z0, bd_r e7, if_neg y0, lt_e, nI_s1]
              exact later (Or.inl rfl) okw tp'
        · have _u := trivial
          by_cases y0 : nI y = (0:Int32)
          · rcases ha i with a1 | a1
            · obtain ⟨p9, s1, s2, s3⟩ := away_ok okw tp' (by simp) hic a1
              rw [b_L_prepare_5, if_neg nc, if_neg o1, lt_e, bd_r m5, if_pos i1, bd_r m4, if_neg (show ¬ ta i = 0 from fun z => absurd (i2.symm.trans z) (by decide)), if_pos rfl, bd_r e7, if_pos y0, bd_r m3, if_pos a1, if_neg o1, bd_r s1, if_pos rfl, bd_r m3', if_pos rfl, lt_e, nI_s1]
              exact later (Or.inl rfl) s3 s2
            · rw [b_L_prepare_5, if_neg nc, if_neg o1, lt_e, bd_r m5, if_pos i1, bd_r m4, if_neg (show ¬ ta i = 0 from fun z => absurd (i2.symm.trans z) (by decide)), if_pos rfl, bd_r e7, if_pos y0, bd_r m3, if_neg (show ¬ aw i = 0 from fun z => absurd (a1.symm.trans z) (by decide)), lt_e, nI_s1]
              exact later (Or.inl rfl) okw tp'
          · rw [b_L_prepare_5, if_neg nc, if_neg o1, lt_e, bd_r m5, if_pos i1, bd_r m4, if_neg (show ¬ ta i = 0 from fun z => absurd (i2.symm.trans z) (by decide)), if_pos rfl, bd_r e7, if_neg y0, lt_e, nI_s1]
            exact later (Or.inl rfl) okw tp'
  obtain ⟨e, e1, v', p', rfl, h1, h2⟩ := on_get lo
  have gb1 : ∀ {B : Type} {k : Option B}, gb (1:Int32) k = k := fun {B k} => if_pos rfl
  exact ⟨v', p', by rw [f_L_prepare, e1, bd_s, gb1], h1, h2⟩
end PREP
theorem lawBuild {xs : Nat → Int32} {L n q : Nat} (hL : L ≤ 260) (n1 : 1 ≤ n) (n7 : n ≤ 7) {v : StV} (ok : Ok 0 0 q 0 v) {p : PaV} (tp : Top p []) : ∃ v' p' g, f_L_build xs L v p (nI n) = some ((1:Int32), (v', p')) ∧ Ok n 0 q g v' ∧ g ≤ 2800 ∧ Top p' [] ∧ PB n v' := by
  obtain ⟨g0, e0⟩ := cell_ok (xs := xs) (i := 1) hL (by omega)
  have e0 : f_L_cell xs L (1:Int32) = some (g0, ()) := e0
  have l1 : One (lp (b_L_build_12 xs L (nI n) g0) FU ((1:Int32), (0:Int32), v, p)) (fun e => ∃ v' p' g, e = ((1:Int32), nI n, v', p') ∧ Ok n 0 q g v' ∧ g ≤ 2800 ∧ Top p' [] ∧ (∀ j, j < n → St_guarantor v' j = (-99999:Int32)) ∧ PB n v') := by
    refine lp_one (fun k s => ∃ i v' p' g, s = ((1:Int32), nI i, v', p') ∧ i ≤ n ∧ k = n - i ∧ Ok i 0 q g v' ∧ g ≤ 400 * i ∧ Top p' [] ∧ (∀ j, j < i → St_guarantor v' j = (-99999:Int32)) ∧ (∀ j, St_bid v' j = 0)) _ ?_ (n := n) ⟨0, v, p, 0, rfl, by omega, by omega, ok, by omega, tp, fun j hj => by omega, fun j => ?_⟩ (FU_gt (by omega))
    · rintro k s ⟨i, v', p', g, rfl, h1, rfl, ok', hg, tp', hgu, hbz⟩ J hJ
      by_cases e : i = n
      · subst e
        simp (disch := omega) only [b_L_build_12, nI_lei, Nat.le_refl, ↓reduceIte]
        exact ⟨v', p', g, rfl, ok', by omega, tp', hgu, fun j _ _ _ => hbz j⟩
      · have ni : ¬ n ≤ i := by omega
        obtain ⟨B, P, gu, b, aw, ta, ins, F, O, G, H, S, D, rfl, okw⟩ := ok'
        obtain ⟨s, es⟩ := cell_ok (xs := xs) (i := 2 + i) hL (by omega)
        have p2 : (2:Int32) + nI i = nI (2 + i) := q_add 2 i
        obtain ⟨t, ht, et⟩ := low_ok (g0 >>> (nI i &&& 31)) (k := 3) (by omega) (by omega)
        have et : f_L_low (g0 >>> (nI i &&& 31)) (3:Int32) = some (nI t, ()) := et
        have go : ∀ x, x ≤ 400 → ∃ v2 p2, f_X5_addMember (nI i, nI 0, nI q, nI B, nI g, nf P, gu, nf b, aw, ta, ins, nf F, nf O, nf G, nf H, nf S, nf D) p' (nI x) = some (nI i, (v2, p2)) ∧ f_X5_member v2 (nI i) (0:Int32) = some (nI x, ()) ∧ f_X5_member v2 (nI i) (1:Int32) = some ((-99999:Int32), ()) ∧ f_X5_member v2 (nI i) (5:Int32) = some ((1:Int32), ()) ∧ J ((1:Int32), nI (i + 1), v2, p2) := by
          intro x hx
          obtain ⟨v2, p2, a1, a2, a3, a4, a5, a6, a7, a8, a9⟩ := addM_ok okw tp' (by simp) (by omega) (x := x) (by omega) (by omega)
          obtain ⟨hc, -, -, -, -, -, bi, -⟩ := a2.cnt
          refine ⟨v2, p2, a1, ?_, ?_, ?_, hJ _ _ (by omega) ⟨i + 1, v2, p2, g + x, rfl, by omega, rfl, a2, by omega, a3, fun j hj => ?_, fun j => ?_⟩⟩
          · rw [← a4]; exact mem_0 hc (by omega) (by omega)
          · rw [← a5]; exact mem_1 hc (by omega) (by omega)
          · rw [← a6]; exact mem_5 hc (by omega) (by omega) bi
          · by_cases q9 : j = i
            · subst q9; exact a5
            · rw [a8 j (by omega)]; exact hgu j (by omega)
          · exact a9 j (hbz j)
        by_cases t0 : nI t = (0:Int32)
        · obtain ⟨x, hx, ex⟩ := low_ok s (k := 20) (by omega) (by omega)
          have ex : f_L_low s (20:Int32) = some (nI x, ()) := ex
          obtain ⟨v2, p3, a1, a2, a3, a4, a5⟩ := go x (by omega)
          simp (disch := omega) only [b_L_build_12, nI_lei, ni, o_ne, p2, es, et, t0, ex, a1, a2, a3, a4, bd_s, lt_e, nI_s1, ↓reduceIte]
          exact a5
        · obtain ⟨x, hx, ex⟩ := low_ok s (k := 400) (by omega) (by omega)
          have ex : f_L_low s (400:Int32) = some (nI x, ()) := ex
          obtain ⟨v2, p3, a1, a2, a3, a4, a5⟩ := go x (by omega)
          simp (disch := omega) only [b_L_build_12, nI_lei, ni, o_ne, p2, es, et, if_neg t0, ex, a1, a2, a3, a4, bd_s, lt_e, nI_s1, ↓reduceIte]
          exact a5
    · obtain ⟨B, P, gu, b, aw, ta, ins, F, O, G, H, S, D, rfl, okw⟩ := ok
      show nf b j = 0
      rw [nf_at, okw.2.2.2.2.2.2.2.2.2.2.2.2.1 j (by omega)]
      rfl
  obtain ⟨e, e1, v1, p1, g, rfl, ok1, hg, tp1, hgu, pb1⟩ := on_get l1
  have l2 : One (lp (b_L_build_116 xs L (nI n)) FU ((1:Int32), (0:Int32), v1, p1)) (fun e => ∃ x v' p', e = ((1:Int32), x, v', p') ∧ Ok n 0 q g v' ∧ Top p' [] ∧ PB n v') := by
    refine lp_one (fun k s => ∃ i v' p', s = ((1:Int32), nI i, v', p') ∧ i ≤ n ∧ k = n - i ∧ Ok n 0 q g v' ∧ Top p' [] ∧ (∀ j, i ≤ j → j < n → St_guarantor v' j = (-99999:Int32)) ∧ PB n v') _ ?_ (n := n) ⟨0, v1, p1, rfl, by omega, by omega, ok1, tp1, fun j _ hj => hgu j hj, pb1⟩ (FU_gt (by omega))
    rintro k s ⟨i, v', p', rfl, h1, rfl, ok', tp', hgu', pb'⟩ J hJ
    by_cases e : i = n
    · subst e
      simp (disch := omega) only [b_L_build_116, nI_lei, Nat.le_refl, ↓reduceIte]
      exact ⟨_, v', p', rfl, ok', tp', pb'⟩
    · have ni : ¬ n ≤ i := by omega
      by_cases n2 : n = 1
      · have le : nI n ≤ (1:Int32) := (nI_lei (b := 1) (by omega) (by omega)).mpr (by omega)
        simp (disch := omega) only [b_L_build_116, nI_lei, ni, o_ne, le, ↓reduceIte]
        exact ⟨_, v', p', rfl, ok', tp', pb'⟩
      · have nle : ¬ nI n ≤ (1:Int32) := fun z => by have := (nI_lei (b := 1) (by omega) (by omega)).mp z; omega
        obtain ⟨s, es⟩ := cell_ok (xs := xs) (i := 10 + i) hL (by omega)
        have p10 : (10:Int32) + nI i = nI (10 + i) := q_add 10 i
        obtain ⟨t, ht, et⟩ := low_ok s (k := 2) (by omega) (by omega)
        have et : f_L_low s (2:Int32) = some (nI t, ()) := et
        by_cases t0 : nI t = (0:Int32)
        · obtain ⟨B, P, gu, b, aw, ta, ins, F, O, G, H, S, D, rfl, okw⟩ := ok'
          obtain ⟨x, hx, ex⟩ := low_ok (s >>> ((1:Int32) &&& 31)) (k := n - 1) (by omega) (by omega)
          have n1' : nI n - (1:Int32) = nI (n - 1) := nI_sub (b := 1) (by omega)
          have nz : ¬ nI n = 0 := fun z => by have := (nI_inj (b := 0) (by omega) (by omega)).mp z; omega
          have rem : nI (i + 1 + x) - nI (i + 1 + x) / nI n * nI n = nI ((i + 1 + x) % n) := nI_rem (by omega) (by omega)
          have on : (i + 1 + x) % n < n := Nat.mod_lt _ (by omega)
          have oi : i ≠ (i + 1 + x) % n := by
            by_cases w : i + 1 + x < n
            · rw [Nat.mod_eq_of_lt w]; omega
            · rw [Nat.mod_eq_sub_mod (by omega), Nat.mod_eq_of_lt (by omega)]; omega
          obtain ⟨p9, a1, a2, a3⟩ := setG_ok okw tp' (by simp) (i := i) (o := (i + 1 + x) % n) (by omega) on oi
          have gi' : gu i = (-99999:Int32) := hgu' i (Nat.le_refl _) (by omega)
          rw [gi'] at a1
          have m1 : f_X5_member (nI n, nI 0, nI q, nI B, nI g, nf P, upd gu i (nI ((i + 1 + x) % n)), nf b, aw, ta, ins, nf F, nf O, nf G, nf H, nf S, nf D) (nI i) (1:Int32) = some (nI ((i + 1 + x) % n), ()) := (mem_1 (n := n) rfl (by omega) (by omega)).trans (by show some (upd gu i _ i, ()) = _; rw [upd_same])
          simp (disch := omega) only [b_L_build_116, nI_lei, ni, o_ne, nle, p10, es, et, t0, n1', ex, gz, nz, nI_s1, q_add, rem, a1, m1, bd_s, lt_e, ↓reduceIte]
          refine hJ _ _ (by omega) ⟨i + 1, _, p9, rfl, by omega, rfl, ⟨B, P, _, b, aw, ta, ins, F, O, G, H, S, D, rfl, a3⟩, a2, fun j hj hjn => ?_, pb'⟩
          show upd gu i _ j = _
          rw [upd_ne (by omega)]
          exact hgu' j (by omega) hjn
        · simp (disch := omega) only [b_L_build_116, nI_lei, ni, o_ne, nle, p10, es, et, if_neg t0, bd_s, lt_e, nI_s1, ↓reduceIte]
          exact hJ _ _ (by omega) ⟨i + 1, v', p', rfl, by omega, rfl, ok', tp', fun j hj => hgu' j (by omega), pb'⟩
  obtain ⟨e, e2, x, v2, p2, rfl, ok2, tp2, pb2⟩ := on_get l2
  have gb1 : ∀ {B : Type} {k : Option B}, gb (1:Int32) k = k := fun {B k} => if_pos rfl
  exact ⟨v2, p2, g, by rw [f_L_build, e0, bd_s, e1, bd_s, e2, bd_s, gb1], ok2, hg, tp2, pb2⟩
end
section
/-! the law as a whole -/
theorem ok_start : Ok 0 0 10 0 St_0 := by
  refine ⟨0, fun _ => 0, fun _ => 0, fun _ => 0, fun _ => 0, fun _ => 0, fun _ => 0, fun _ => 0, fun _ => 0, fun _ => 0, fun _ => 0, fun _ => 0, fun _ => 0, rfl, ⟨by omega, by omega, by omega, by omega, by omega⟩, rfl, fun i hi => by omega, fun _ => Or.inl rfl, fun _ => Or.inl rfl, fun _ => Or.inl rfl, fun _ => Nat.zero_le _, fun _ => Nat.zero_le _, fun _ => Nat.zero_le _, fun k hk => absurd rfl hk, fun _ _ => rfl, fun _ _ => rfl, fun _ _ => rfl, fun _ _ => rfl, fun _ _ => rfl, fun _ _ => rfl, fun _ _ => rfl, fun _ _ => rfl, fun _ _ => rfl, fun _ _ => rfl, fun _ _ => rfl⟩
theorem top_start : Top Pa_0 [] := ⟨0, 0, rfl, rfl, by omega, by omega, by simp, fun _ => ok_start.z, fun i v e => by simp at e⟩
/-- between the law's months -/
def Lq (c m q g : Nat) (w : LwV) : Prop := Ok c m q g w.1 ∧ Z8 w.2.1 ∧ Rz c w.2.2.1 ∧ Top w.2.2.2.1 [] ∧ PB c w.1
section LAW
variable {xs : Nat → Int32} {L c m q g : Nat} {v1 v2 : StV} {v3 : RdV} {v7 : PaV} {v12 : ArV} {h : Int32} {e : Nat}
theorem o_not : ¬ (1:Int32) = 0 := by decide
theorem law_81 (hL : L ≤ 260) (c1 : 1 ≤ c) (hm : m ≤ 98) (he : e ≤ 7) (a : Lq c m q g (v1, v2, v3, v7, v12)) : ∃ w m', f_law_81 xs L v1 v2 v3 v7 v12 (nI c) (nI e) = some w ∧ m' ≤ m + 1 ∧ Lq c m' q g (w.1, w.2.1, w.2.2.1, w.2.2.2.1, w.2.2.2.2.1) := by
  obtain ⟨a1, a2, a3, a4, a5⟩ := a
  have c8 : c ≤ 7 := a1.cnt.2.2.2.2.2.2.2.1
  obtain ⟨x, ex⟩ := cell_ok (xs := xs) (i := 20 + e) hL (by omega)
  obtain ⟨y, ey⟩ := cell_ok (xs := xs) (i := 30 + e) hL (by omega)
  have p20 : (20:Int32) + nI e = nI (20 + e) := q_add 20 e
  have p30 : (30:Int32) + nI e = nI (30 + e) := q_add 30 e
  obtain ⟨u1, p1, b1, b2, b3⟩ := lawPrep a1 a5 a4 x
  obtain ⟨i, hi, ei⟩ := low_ok y c1 (by omega)
  have b2' := b2
  obtain ⟨B, P, gu, b, aw, ta, ins, F, O, G, H, S, D, rfl, okw⟩ := b2
  obtain ⟨t2, r2, p2, d1, d2, d3, d4⟩ := lawLB okw c1 hm hi b3 (by simp) a2 a3
  obtain ⟨v', t3, r3, p3, ar3, m', f1, f2, f3, f4, f5, f6, f7⟩ := lawMonth b2' c1 hm d2 d3 d4 (by simp) v12
  refine ⟨(v', t3, r3, p3, ar3, y), m', ?_, f6, f5, f2, f3, f4, f7⟩
  simp only [f_law_81, p20, p30, ex, ey, b1, ei, d1, f1, f5.addUp, bd_s, o_not, ↓reduceIte]
theorem law_145 (c1 : 1 ≤ c) (hm : m ≤ 86) (i5 : Int32) (a : Lq c m q g (v1, v2, v3, v7, v12)) : ∃ w m', f_law_145 xs L v1 v2 v3 v7 v12 (nI c) i5 h = some w ∧ m' ≤ m + 12 ∧ Lq c m' q g w := by
  obtain ⟨a1, a2, a3, a4, a5⟩ := id a
  have c8 : c ≤ 7 := a1.cnt.2.2.2.2.2.2.2.1
  obtain ⟨x, hx, ex⟩ := low_ok (h >>> ((4:Int32) &&& 31)) (k := 4) (by omega) (by omega)
  have ex : f_L_low (h >>> ((4:Int32) &&& 31)) (4:Int32) = some (nI x, ()) := ex
  by_cases x0 : nI x = (0:Int32)
  · obtain ⟨i, hi, ei⟩ := low_ok (h >>> ((6:Int32) &&& 31)) c1 (by omega)
    obtain ⟨v', t', r', p', m', b1, b2, b3, b4, b5, b6, b7⟩ := lawEnd a1 c1 hm hi a5 a2 a3 a4
    exact ⟨(v', t', r', p', v12), m', by simp only [f_law_145, ex, x0, ei, b1, bd_s, o_not, ↓reduceIte], b6, b5, b2, b3, b4, b7⟩
  · exact ⟨(v1, v2, v3, v7, v12), m, by simp only [f_law_145, ex, if_neg x0, bd_s], by omega, a⟩
theorem law_174 (c1 : 1 ≤ c) (i5 : Int32) (a : Lq c m q g (v1, v2, v3, v7, v12)) : ∃ w, f_law_174 xs L v1 v2 v3 v7 v12 (nI c) i5 h = some w ∧ Lq c m q g w := by
  obtain ⟨a1, a2, a3, a4, a5⟩ := id a
  have c8 : c ≤ 7 := a1.cnt.2.2.2.2.2.2.2.1
  obtain ⟨x, hx, ex⟩ := low_ok (h >>> ((10:Int32) &&& 31)) (k := 5) (by omega) (by omega)
  have ex : f_L_low (h >>> ((10:Int32) &&& 31)) (5:Int32) = some (nI x, ()) := ex
  by_cases x0 : nI x = (0:Int32)
  · obtain ⟨i, hi, ei⟩ := low_ok (h >>> ((13:Int32) &&& 31)) c1 (by omega)
    obtain ⟨B, P, gu, b, aw, ta, ins, F, O, G, H, S, D, e, okw⟩ := a1
    have e : v1 = (nI c, nI m, nI q, nI B, nI g, nf P, gu, nf b, aw, ta, ins, nf F, nf O, nf G, nf H, nf S, nf D) := e
    subst e
    obtain ⟨v', p', b1, b2, b3, b4⟩ := leave_ok okw a4 (by simp) hi
    exact ⟨(v', v2, v3, p', v12), by simp only [f_law_174, ex, x0, ei, b1, bd_s, o_not, ↓reduceIte], b3, a2, a3, b2, b4 a5⟩
  · exact ⟨(v1, v2, v3, v7, v12), by simp only [f_law_174, ex, if_neg x0, bd_s], a⟩
theorem law_204 (c1 : 1 ≤ c) (i5 : Int32) (a : Lq c m q g (v1, v2, v3, v7, v12)) : ∃ w i, f_law_204 xs L v1 v2 v3 v7 v12 (nI c) i5 h = some w ∧ w.2.2.2.2.2 = nI i ∧ i < c ∧ Lq c m q g (w.1, w.2.1, w.2.2.1, w.2.2.2.1, w.2.2.2.2.1) := by
  obtain ⟨a1, a2, a3, a4, a5⟩ := id a
  have c8 : c ≤ 7 := a1.cnt.2.2.2.2.2.2.2.1
  obtain ⟨i, hi, ei⟩ := low_ok (h >>> ((16:Int32) &&& 31)) c1 (by omega)
  by_cases n1 : c = 1
  · have le : nI c ≤ (1:Int32) := (nI_lei (b := 1) (by omega) (by omega)).mpr (by omega)
    exact ⟨(v1, v2, v3, v7, v12, nI i), i, by simp only [f_law_204, ei, le, bd_s, ↓reduceIte], rfl, hi, a⟩
  · have nle : ¬ nI c ≤ (1:Int32) := fun z => by have := (nI_lei (b := 1) (by omega) (by omega)).mp z; omega
    obtain ⟨x, hx, ex⟩ := low_ok (h >>> ((20:Int32) &&& 31)) (k := c - 1) (by omega) (by omega)
    have n1' : nI c - (1:Int32) = nI (c - 1) := nI_sub (b := 1) (by omega)
    have nz : ¬ nI c = 0 := fun z => by have := (nI_inj (b := 0) (by omega) (by omega)).mp z; omega
    have rem : nI (i + 1 + x) - nI (i + 1 + x) / nI c * nI c = nI ((i + 1 + x) % c) := nI_rem (by omega) (by omega)
    have on : (i + 1 + x) % c < c := Nat.mod_lt _ (by omega)
    have oi : i ≠ (i + 1 + x) % c := by
      by_cases w : i + 1 + x < c
      · rw [Nat.mod_eq_of_lt w]; omega
      · rw [Nat.mod_eq_sub_mod (by omega), Nat.mod_eq_of_lt (by omega)]; omega
    obtain ⟨B, P, gu, b, aw, ta, ins, F, O, G, H, S, D, e, okw⟩ := a1
    have e : v1 = (nI c, nI m, nI q, nI B, nI g, nf P, gu, nf b, aw, ta, ins, nf F, nf O, nf G, nf H, nf S, nf D) := e
    subst e
    have hP9 := okw.P9 i
    generalize hj : (i + 1 + x) % c = j at on oi rem
    obtain ⟨y, p', b1, b2, b3, b4, b5, b6⟩ := repay_ok okw a4 (by simp) hi on oi
    have hD : ∀ k, D k ≤ 20 * m := okw.2.2.2.2.2.2.2.2.1
    have hm : m ≤ 99 := okw.1.2.2.2.1
    have d9 := hD (i * 8 + j)
    have hc : ∀ {P' D' : Nat → Nat}, St_count (nI c, nI m, nI q, nI B, nI g, nf P', gu, nf b, aw, ta, ins, nf F, nf O, nf G, nf H, nf S, nf D') = nI c := fun {_ _} => rfl
    have o1 : f_X5_owes (nI c, nI m, nI q, nI B, nI g, nf P, gu, nf b, aw, ta, ins, nf F, nf O, nf G, nf H, nf S, nf D) (nI i) (nI j) = some (nI (D (i * 8 + j)), ()) := owe_n (n := c) hc hi on oi (by omega)
    have m1 : f_X5_member (nI c, nI m, nI q, nI B, nI g, nf P, gu, nf b, aw, ta, ins, nf F, nf O, nf G, nf H, nf S, nf D) (nI i) (0:Int32) = some (nI (P i), ()) := mem_0 (n := c) hc hi (by omega)
    have m2 : f_X5_member (nI c, nI m, nI q, nI B, nI g, nf P, gu, nf b, aw, ta, ins, nf F, nf O, nf G, nf H, nf S, nf D) (nI j) (0:Int32) = some (nI (P j), ()) := mem_0 (n := c) hc on (by omega)
    have o3 : f_X5_owes (nI c, nI m, nI q, nI B, nI g, nf (un (un P j (P j + y)) i (P i - y)), gu, nf b, aw, ta, ins, nf F, nf O, nf G, nf H, nf S, nf (un D (i * 8 + j) (D (i * 8 + j) - y))) (nI i) (nI j) = some (nI (D (i * 8 + j) - y), ()) := (owe_n (n := c) hc hi on oi (by omega)).trans (by show some (nf (un D (i * 8 + j) _) (i * 8 + j), ()) = _; rw [nf_at, un_same])
    have m3 : f_X5_member (nI c, nI m, nI q, nI B, nI g, nf (un (un P j (P j + y)) i (P i - y)), gu, nf b, aw, ta, ins, nf F, nf O, nf G, nf H, nf S, nf (un D (i * 8 + j) (D (i * 8 + j) - y))) (nI i) (0:Int32) = some (nI (P i - y), ()) := (mem_0 (n := c) hc hi (by omega)).trans (by show some (nf (un _ i _) i, ()) = _; rw [nf_at, un_same])
    have m4 : f_X5_member (nI c, nI m, nI q, nI B, nI g, nf (un (un P j (P j + y)) i (P i - y)), gu, nf b, aw, ta, ins, nf F, nf O, nf G, nf H, nf S, nf (un D (i * 8 + j) (D (i * 8 + j) - y))) (nI j) (0:Int32) = some (nI (P j + y), ()) := (mem_0 (n := c) hc on (by omega)).trans (by show some (nf (un (un P j (P j + y)) i _) j, ()) = _; rw [nf_at, un_ne (Ne.symm oi), un_same])
    refine ⟨((nI c, nI m, nI q, nI B, nI g, nf (un (un P j (P j + y)) i (P i - y)), gu, nf b, aw, ta, ins, nf F, nf O, nf G, nf H, nf S, nf (un D (i * 8 + j) (D (i * 8 + j) - y))), v2, v3, p', v12, nI i), i, ?_, rfl, hi, ⟨B, _, gu, b, aw, ta, ins, F, O, G, H, S, _, rfl, b6⟩, a2, a3, b5, a5⟩
    have rp : f_L_repay (nI c, nI m, nI q, nI B, nI g, nf P, gu, nf b, aw, ta, ins, nf F, nf O, nf G, nf H, nf S, nf D) v7 (nI i) (nI j) = some ((1:Int32), ((nI c, nI m, nI q, nI B, nI g, nf (un (un P j (P j + y)) i (P i - y)), gu, nf b, aw, ta, ins, nf F, nf O, nf G, nf H, nf S, nf (un D (i * 8 + j) (D (i * 8 + j) - y))), p')) := by
      by_cases q9 : P i ≤ D (i * 8 + j)
      · have yP : y = P i := by rw [b3]; split <;> omega
        rw [f_L_repay, bd_r o1, bd_r m1, bd_r m2, if_pos (show nI (P i) ≤ nI (D (i * 8 + j)) from (nI_lei (by omega) (by omega)).mpr q9), bd_r b4, if_pos (show nI y = nI (P i) from by rw [yP]), bd_r o3, if_pos (show nI (D (i * 8 + j) - y) = nI (D (i * 8 + j)) - nI (P i) from by rw [nI_sub (by omega), yP]), bd_r m3, if_pos (show nI (P i - y) = nI (P i) - nI (P i) from by rw [nI_sub (by omega), yP]), bd_r m4, if_pos (show nI (P j + y) = nI (P j) + nI (P i) from by rw [q_add, yP])]
      · have yD : y = D (i * 8 + j) := by rw [b3]; split <;> omega
        rw [f_L_repay, bd_r o1, bd_r m1, bd_r m2, if_neg (show ¬ nI (P i) ≤ nI (D (i * 8 + j)) from fun z => q9 ((nI_lei (by omega) (by omega)).mp z)), bd_r b4, if_pos (show nI y = nI (D (i * 8 + j)) from by rw [yD]), bd_r o3, if_pos (show nI (D (i * 8 + j) - y) = nI (D (i * 8 + j)) - nI (D (i * 8 + j)) from by rw [nI_sub (by omega), yD]), bd_r m3, if_pos (show nI (P i - y) = nI (P i) - nI (D (i * 8 + j)) from by rw [nI_sub (by omega), yD]), bd_r m4, if_pos (show nI (P j + y) = nI (P j) + nI (D (i * 8 + j)) from by rw [q_add, yD])]
    simp only [f_law_204, ei, if_neg nle, n1', ex, gz, if_neg nz, nI_s1, q_add, rem, hj, rp, bd_s, lt_e, o_not, ↓reduceIte]
theorem law_249 {i : Nat} (c1 : 1 ≤ c) (hg : g ≤ 8000) (hic : i < c) (i5 : Int32) (a : Lq c m q g (v1, v2, v3, v7, v12)) : ∃ w g', f_law_249 xs L v1 v2 v3 v7 v12 (nI c) i5 h (nI i) = some w ∧ g' ≤ g + 30 ∧ Lq c m q g' w := by
  obtain ⟨a1, a2, a3, a4, a5⟩ := id a
  have c8 : c ≤ 7 := a1.cnt.2.2.2.2.2.2.2.1
  obtain ⟨x, hx, ex⟩ := low_ok (h >>> ((24:Int32) &&& 31)) (k := 3) (by omega) (by omega)
  have ex : f_L_low (h >>> ((24:Int32) &&& 31)) (3:Int32) = some (nI x, ()) := ex
  by_cases x0 : nI x = (0:Int32)
  · obtain ⟨y, hy, ey⟩ := low_ok (h >>> ((26:Int32) &&& 31)) (k := 30) (by omega) (by omega)
    have ey : f_L_low (h >>> ((26:Int32) &&& 31)) (30:Int32) = some (nI y, ()) := ey
    have p1 : (1:Int32) + nI y = nI (1 + y) := q_add 1 y
    obtain ⟨B, P, gu, b, aw, ta, ins, F, O, G, H, S, D, e, okw⟩ := a1
    have e : v1 = (nI c, nI m, nI q, nI B, nI g, nf P, gu, nf b, aw, ta, ins, nf F, nf O, nf G, nf H, nf S, nf D) := e
    subst e
    have m1 : f_X5_member (nI c, nI m, nI q, nI B, nI g, nf P, gu, nf b, aw, ta, ins, nf F, nf O, nf G, nf H, nf S, nf D) (nI i) (0:Int32) = some (nI (P i), ()) := mem_0 (n := c) rfl hic (by omega)
    obtain ⟨p', b1, b2, b3⟩ := give_ok okw a4 (by simp) hic (n := 1 + y) (by omega) (by omega) (by omega)
    exact ⟨((nI c, nI m, nI q, nI B, nI (g + (1 + y)), nf (un P i (P i + (1 + y))), gu, nf b, aw, ta, ins, nf F, nf O, nf G, nf H, nf S, nf D), v2, v3, p', v12), g + (1 + y), by simp only [f_law_249, ex, x0, m1, ey, p1, b1, bd_s, lt_e, q_add, ↓reduceIte], by omega, ⟨B, _, gu, b, aw, ta, ins, F, O, G, H, S, D, rfl, b3⟩, a2, a3, b2, a5⟩
  · exact ⟨(v1, v2, v3, v7, v12), g, by simp only [f_law_249, ex, if_neg x0, bd_s], by omega, a⟩
theorem law_302 (i5 : Int32) (a : Lq c m q g (v1, v2, v3, v7, v12)) : f_law_302 xs L v1 v2 v3 v7 v12 (nI c) i5 = some (v1, v2, v3, v7, v12) := by
  simp only [f_law_302, a.1.addUp, bd_s, o_not, ↓reduceIte]
theorem law_turn (hL : L ≤ 260) (c1 : 1 ≤ c) (he : e < 7) (hm : m ≤ 13 * e) (hg : g ≤ 2800 + 30 * e) {w : LwV} (a : Lq c m q g w) : ∃ w' m' g', b_law xs L (nI c) (nI e, w) = some (.inl (nI (e + 1), w')) ∧ m' ≤ 13 * (e + 1) ∧ g' ≤ 2800 + 30 * (e + 1) ∧ Lq c m' q g' w' := by
  have n7 : ¬ (7:Int32) ≤ nI e := fun z => by have := (nI_lei (a := 7) (by omega) (by omega)).mp z; omega
  obtain ⟨w1, m1, e1, k1, a1⟩ := law_81 (xs := xs) (e := e) hL c1 (by omega) (by omega) a
  obtain ⟨w2, m2, e2, k2, a2⟩ := law_145 (xs := xs) (L := L) (h := w1.2.2.2.2.2) c1 (by omega) (nI e) a1
  obtain ⟨w3, e3, a3⟩ := law_174 (xs := xs) (L := L) (h := w1.2.2.2.2.2) c1 (nI e) a2
  obtain ⟨w4, i, e4, i4, hi, a4⟩ := law_204 (xs := xs) (L := L) (h := w1.2.2.2.2.2) c1 (nI e) a3
  obtain ⟨w5, g5, e5, k5, a5⟩ := law_249 (xs := xs) (L := L) (h := w1.2.2.2.2.2) c1 (by omega) hi (nI e) a4
  have e6 := law_302 (xs := xs) (L := L) (nI e) a5
  refine ⟨w5, m2, g5, ?_, by omega, by omega, a5⟩
  have e4 : f_law_204 xs L w3.1 w3.2.1 w3.2.2.1 w3.2.2.2.1 w3.2.2.2.2 (nI c) (nI e) w1.2.2.2.2.2 = some w4 := e4
  simp only [b_law, n7, e1, e2, e3, e4, i4, e5, e6, bd_s, lt_e, nI_s1, ↓reduceIte]
end LAW
theorem law_pure (xs : Nat → Int32) {L : Nat} (hL : L ≤ 260) : ∃ w e1, f_law_13 xs L St_0 St_0 Rd_0 Pa_0 (fun _ => (0 : Int32)) = some w ∧ lp (b_law xs L (w.2.2.2.2.2)) 8 ((0 : Int32), w.1, w.2.1, w.2.2.1, w.2.2.2.1, w.2.2.2.2.1) = some e1 := by
  obtain ⟨x, ex⟩ := cell_ok (xs := xs) (i := 0) hL (by omega)
  have ex : f_L_cell xs L (0:Int32) = some (x, ()) := ex
  obtain ⟨n, hn, en⟩ := low_ok x (k := 7) (by omega) (by omega)
  have en : f_L_low x (7:Int32) = some (nI n, ()) := en
  have p1 : (1:Int32) + nI n = nI (1 + n) := q_add 1 n
  obtain ⟨y, ey⟩ := cell_ok (xs := xs) (i := 18) hL (by omega)
  have ey : f_L_cell xs L (18:Int32) = some (y, ()) := ey
  obtain ⟨q, hq, eq⟩ := low_ok y (k := 20) (by omega) (by omega)
  have eq : f_L_low y (20:Int32) = some (nI q, ()) := eq
  have p2 : (1:Int32) + nI q = nI (1 + q) := q_add 1 q
  obtain ⟨B, P, gu, b, aw, ta, ins, F, O, G, H, S, D, e0, okw⟩ := ok_start
  obtain ⟨p', b1, b2, b3⟩ := setC_ok okw top_start (by simp) (y := 1 + q) (by omega) (by omega)
  rw [← e0] at b1
  obtain ⟨v1, p3, g, c1, c2, c3, c4, c5⟩ := lawBuild (xs := xs) (n := 1 + n) hL (by omega) (by omega) ⟨B, P, gu, b, aw, ta, ins, F, O, G, H, S, D, rfl, b3⟩ b2
  have q10 : nI 10 = (10:Int32) := rfl
  rw [q10] at b1
  have e1 : f_law_13 xs L St_0 St_0 Rd_0 Pa_0 (fun _ => (0 : Int32)) = some (v1, St_0, Rd_0, p3, (fun _ => (0 : Int32)), nI (1 + n)) := by
    simp only [f_law_13, ex, en, p1, ey, eq, p2, b1, c1, c2.addUp, bd_s, lt_e, o_not, ↓reduceIte]
  have z0 : Zi (1 + n) (fun _ => 0) := fun _ _ => rfl
  have start : Lq (1 + n) 0 (1 + q) g (v1, St_0, Rd_0, p3, (fun _ => (0 : Int32))) := ⟨c2, ok_start.z, ⟨z0, z0⟩, c4, c5⟩
  have run : ∀ k e m g w, k + e = 7 → m ≤ 13 * e → g ≤ 2800 + 30 * e → Lq (1 + n) m (1 + q) g w → ∃ e1, lp (b_law xs L (nI (1 + n))) (k + 1) (nI e, w) = some e1 := by
    intro k
    induction k with
    | zero =>
      intro e m g w he hm hg a
      have : e = 7 := by omega
      subst this
      have e7 : (7:Int32) ≤ nI 7 := by decide
      refine ⟨w, lp_out ?_⟩
      unfold b_law
      rw [if_pos e7]
    | succ k ih =>
      intro e m g w he hm hg a
      obtain ⟨w', m', g', e2, k1, k2, a'⟩ := law_turn (xs := xs) (e := e) hL (by omega) (by omega) hm hg a
      obtain ⟨e1, h1⟩ := ih (e + 1) m' g' w' (by omega) k1 k2 a'
      exact ⟨e1, by rw [lp_in e2]; exact h1⟩
  obtain ⟨e2, h2⟩ := run 7 0 0 g _ rfl (by omega) (by omega) start
  exact ⟨_, e2, e1, h2⟩
end
section
theorem last_row : True := trivial
end
