/-! the groups: what each object with its rows holds, as a tuple; its cells -/
def stW (G : uG) (a : Nat → Nat) (v : StV) : va_W := [(a 0, .inr (3, [.int (St_count v), .int (St_month v), .int (St_contribution v), .int (St_box v), .int (St_given v), .ref (a 1), .ref (a 2), .ref (a 3), .ref (a 4), .ref (a 5), .ref (a 6), .ref (a 7), .ref (a 8), .ref (a 9), .ref (a 10), .ref (a 11), .ref (a 12)])), (a 1, .inl (G.2.1, 8, .inl (St_purse v))), (a 2, .inl (G.2.1, 8, .inl (St_guarantor v))), (a 3, .inl (G.2.1, 8, .inl (St_bid v))), (a 4, .inl (G.2.2.1, 8, .inl (St_away v))), (a 5, .inl (G.2.2.1, 8, .inl (St_taken v))), (a 6, .inl (G.2.2.1, 8, .inl (St_inside v))), (a 7, .inl (G.2.1, 8, .inl (St_paidForItself v))), (a 8, .inl (G.2.1, 8, .inl (St_paidForOthers v))), (a 9, .inl (G.2.1, 8, .inl (St_gotOfPot v))), (a 10, .inl (G.2.1, 8, .inl (St_shares v))), (a 11, .inl (G.2.1, 8, .inl (St_misses v))), (a 12, .inl (G.2.1, 64, .inl (St_debt v)))]
def rdW (G : uG) (a : Nat → Nat) (v : RdV) : va_W := [(a 0, .inr (1, [.ref (a 1), .ref (a 2), .int (Rd_pence v)])), (a 1, .inl (G.2.2.1, 8, .inl (Rd_paid v))), (a 2, .inl (G.2.2.1, 8, .inl (Rd_missing v)))]
def txW (G : uG) (a : Nat → Nat) (v : TxV) : va_W := [(a 0, .inr (4, [.ref (a 1), .int (Tx_length v), .int (Tx_at v)])), (a 1, .inl (G.2.1, 100, .inl (Tx_signs v)))]
def arW (G : uG) (a : Nat → Nat) (v : ArV) : va_W := [(a 0, .inl (G.2.1, 16, .inl (Ar_row v)))]
def scW (a : Nat → Nat) (x0 : Nat) (x1 : Nat) : va_W := [(a 0, .inr (2, [.ref x0, .ref x1]))]
def maW (a : Nat → Nat) (x0 : Nat) (x1 : Nat) (x2 : Nat) (x3 : Nat) (x4 : Nat) (x5 : Nat) (x6 : Nat) (x7 : Nat) : va_W := [(a 0, .inr (5, [.ref x0, .ref x1, .ref x2, .ref x3, .ref x4, .ref x5, .ref x6, .ref x7]))]
/-- the past: its object, its row, its fourteen states -/
def paO (G : uG) (a : Nat → Nat → Nat) (v : PaV) : va_W := [(a 0 0, .inr (0, [.ref (a 0 1), .int (Pa_size v), .int (Pa_next v)])), (a 0 1, .inl (G.2.2.2.1, 14, .inr (.inr (.inr (.inr (fun j => some (a (j + 1) 0)))))))]
def paS (G : uG) (a : Nat → Nat → Nat) (f : Nat → StV) : List va_W := (List.range 14).map (fun k => stW G (a (k + 1)) (f k))
def paW (G : uG) (a : Nat → Nat → Nat) (v : PaV) : va_W := paO G a v ++ (paS G a (Pa_states v)).flatten
/-- the slots: the row of states, the row of marks -/
def slW (G : uG) (a : Nat → Nat) (x0 x1 : Nat) (v : SlV) : va_W := [(a 0, .inl (G.2.2.2.1, 2, .inr (.inr (.inr (.inr (fun j => if j = 0 then some x0 else some x1)))))), (a 1, .inl (G.2.2.1, 2, .inl (Sl_used v)))]
