/-! the chain of guarantors -/
def setB (M a : Nat) : Nat := (nI M ||| ((1:Int32) <<< (nI a &&& 31))).toNatClampNeg
def pcn (M : Nat) : Nat := M % 2 + M / 2 % 2 + M / 4 % 2 + M / 8 % 2 + M / 16 % 2 + M / 32 % 2 + M / 64 % 2 + M / 128 % 2
theorem chain_bits : ∀ (M : Fin 256) (a : Fin 8), ((((nI M.1 >>> (nI a.1 &&& 31)) &&& (1:Int32)) = 0) → (nI M.1 ||| ((1:Int32) <<< (nI a.1 &&& 31))) = nI (setB M.1 a.1) ∧ setB M.1 a.1 < 256 ∧ pcn (setB M.1 a.1) = pcn M.1 + 1) ∧ (pcn M.1 = 8 → ¬ ((nI M.1 >>> (nI a.1 &&& 31)) &&& (1:Int32)) = 0) := by decide +kernel
theorem pcn_le {M : Nat} : pcn M ≤ 8 := by
  unfold pcn
  omega
section CHAIN
variable {c : Nat} {mo co bo gv : Int32} {pu gu bi aw ta ins pf po go sh ms de : Nat → Int32}
variable {th : Int32} {z past : Nat → Int32} {pm : Int32} {sl sv sp tx : Nat → Int32} {ty : Int32} {hp mi : Nat → Int32} {pot : Int32} {rd : Nat → Int32} {spt wr : Int32}
theorem chain_both (hc : c ≤ 8) (hg : Gu c gu) {a : Nat} (ha : a < c) : Two (lp (b_X3_chainLength_7 (nI c, mo, co, bo, gv, pu, gu, bi, aw, ta, ins, pf, po, go, sh, ms, de)) FU ((0:Int32), (0:Int32), nI a)) (lp (b_X6_chain_33 (th, (E c mo co bo gv pu gu bi aw ta ins pf po go sh ms de), past, pm, sl, sv, sp, tx, ty, hp, mi, pot, rd, spt, wr)) FU ((0:Int32), (0:Int32), nI a)) (fun e f => e.2.1 = f.2.1) := by
  refine lp_two (fun n s t => ∃ M w, s = (nI M, nI (pcn M), w) ∧ t = s ∧ M < 256 ∧ n = 8 - pcn M ∧ (w = (-99999:Int32) ∨ ∃ g, g < c ∧ w = nI g)) _ ?_ (n := 8) ⟨0, nI a, rfl, rfl, by omega, rfl, Or.inr ⟨a, ha, rfl⟩⟩ (FU_gt (by omega))
  rintro n s t ⟨M, w, rfl, rfl, hM, rfl, hw⟩ J hJ
  have hp := pcn_le (M := M)
  by_cases h8 : 8 ≤ pcn M
  · rcases hw with rfl | ⟨g, hgc, rfl⟩
    · simp (disch := omega) only [b_X3_chainLength_7, b_X6_chain_33, le8, h8, ↓reduceIte]
      rfl
    · have hb := (chain_bits ⟨M, hM⟩ ⟨g, by omega⟩).2 (by show pcn M = 8; omega)
      have hn : ¬ nI g = (-99999:Int32) := fun q => (nI_neg (by omega)).mp q
      simp (disch := omega) only [b_X3_chainLength_7, b_X6_chain_33, le8, h8, hb, hn, ↓reduceIte]
      rfl
  · rcases hw with rfl | ⟨g, hgc, rfl⟩
    · simp (disch := omega) only [b_X3_chainLength_7, b_X6_chain_33, le8, h8, ex_no, bd_s, ↓reduceIte]
      rfl
    · have hn : ¬ nI g = (-99999:Int32) := fun q => (nI_neg (by omega)).mp q
      by_cases hz : ((nI M >>> (nI g &&& 31)) &&& (1:Int32)) = 0
      · obtain ⟨q1, q2, q3⟩ := (chain_bits ⟨M, hM⟩ ⟨g, by omega⟩).1 hz
        have q1 : (nI M ||| ((1:Int32) <<< (nI g &&& 31))) = nI (setB M g) := q1
        have q3 : pcn (setB M g) = pcn M + 1 := q3
        simp (disch := omega) only [b_X3_chainLength_7, b_X6_chain_33, le8, h8, ex_yes, hn, hz, q1, St_count, St_month, St_contribution, St_box, St_given, St_purse, St_guarantor, St_bid, St_away, St_taken, St_inside, St_paidForItself, St_paidForOthers, St_gotOfPot, St_shares, St_misses, St_debt, St_count_s, St_month_s, St_contribution_s, St_box_s, St_given_s, St_purse_s, St_guarantor_s, St_bid_s, St_away_s, St_taken_s, St_inside_s, St_paidForItself_s, St_paidForOthers_s, St_gotOfPot_s, St_shares_s, St_misses_s, St_debt_s, Rd_paid, Rd_missing, Rd_pence, Rd_paid_s, Rd_missing_s, Rd_pence_s, Md_thrown, Md_z, Md_past, Md_pastMany, Md_slots, Md_isSaved, Md_spare, Md_text, Md_typed, Md_hasPaid, Md_misses, Md_potNow, Md_read, Md_spot, Md_wrong, Md_thrown_s, Md_z_s, Md_past_s, Md_pastMany_s, Md_slots_s, Md_isSaved_s, Md_spare_s, Md_text_s, Md_typed_s, Md_hasPaid_s, Md_misses_s, Md_potNow_s, Md_read_s, Md_spot_s, Md_wrong_s, mul8, mul8r, lt_e, bd_s, gi_ok, gz2, gz8, gz40, q_add, nI_s1, nI_clamp, upd_same, nar0, nar1, c0, c1, c2, c3, c4, g0_157, g1_157, g2_157, g3_157, g4_157, g0_1, a5, a13, a21, a29, a37, a45, a53, a61, a69, a77, a85, a93, E_0, E_1, E_2, E_3, E_4, E_pu, E_gu, E_bi, E_aw, E_ta, E_ins, E_pf, E_po, E_go, E_sh, E_ms, E_de, o_ne, ↓reduceIte]
        rw [← q3]
        exact hJ _ _ _ (by rw [q3]; omega) ⟨setB M g, gu g, rfl, rfl, q2, rfl, hg g hgc⟩
      · simp (disch := omega) only [b_X3_chainLength_7, b_X6_chain_33, le8, h8, ex_yes, hn, hz, bd_s, o_ne, ↓reduceIte]
        rfl
theorem ask_chain {m : Nat} {v : StV} (h : Gs c m v z) (i : Int32) : Two (f_X5_chain v i) (f_X6_chain (th, z, past, pm, sl, sv, sp, tx, ty, hp, mi, pot, rd, spt, wr) i) (Ans (fun s k => s = IOB ∧ k = 1) (fun (_ : Unit) q => ∃ t, q = (t, z, past, pm, sl, sv, sp, tx, ty, hp, mi, pot, rd, spt, wr))) := by
  have hc := h.cnt.1
  rcases mem_or i hc with ⟨a, ha, rfl⟩ | ha
  · obtain ⟨a1, a2, -⟩ := h.yes (th := th) (past := past) (pm := pm) (sl := sl) (sv := sv) (sp := sp) (tx := tx) (ty := ty) (hp := hp) (mi := mi) (pot := pot) (rd := rd) (spt := spt) (wr := wr) ha
    obtain ⟨mo, co, bo, gv, pu, gu, bi, aw, ta, ins, pf, po, go, sh, ms, de, rfl, rfl, ok⟩ := h
    obtain ⟨e, f, e1, e2, e3⟩ := tw_get (chain_both (th := (0:Int32)) (past := past) (pm := pm) (sl := sl) (sv := sv) (sp := sp) (tx := tx) (ty := ty) (hp := hp) (mi := mi) (pot := pot) (rd := rd) (spt := spt) (wr := wr) (mo := mo) (co := co) (bo := bo) (gv := gv) (pu := pu) (gu := gu) (bi := bi) (aw := aw) (ta := ta) (ins := ins) (pf := pf) (po := po) (go := go) (sh := sh) (ms := ms) (de := de) hc ok.2.2.2.1 ha)
    refine tw_mk (a := .inl (e.2.1, ())) (b := (f.2.1, (0, (E c mo co bo gv pu gu bi aw ta ins pf po go sh ms de), past, pm, sl, sv, sp, tx, ty, hp, mi, pot, rd, spt, wr))) ?_ ?_ ⟨rfl, e3, 0, rfl⟩
    · simp only [f_X5_chain, f_X3_chainLength, a1, bx_l, e1, bd_s]
    · rw [f_X6_chain, a2]
      simp only [bd_s, lt_e, St_count, St_month, St_contribution, St_box, St_given, St_purse, St_guarantor, St_bid, St_away, St_taken, St_inside, St_paidForItself, St_paidForOthers, St_gotOfPot, St_shares, St_misses, St_debt, St_count_s, St_month_s, St_contribution_s, St_box_s, St_given_s, St_purse_s, St_guarantor_s, St_bid_s, St_away_s, St_taken_s, St_inside_s, St_paidForItself_s, St_paidForOthers_s, St_gotOfPot_s, St_shares_s, St_misses_s, St_debt_s, Rd_paid, Rd_missing, Rd_pence, Rd_paid_s, Rd_missing_s, Rd_pence_s, Md_thrown, Md_z, Md_past, Md_pastMany, Md_slots, Md_isSaved, Md_spare, Md_text, Md_typed, Md_hasPaid, Md_misses, Md_potNow, Md_read, Md_spot, Md_wrong, Md_thrown_s, Md_z_s, Md_past_s, Md_pastMany_s, Md_slots_s, Md_isSaved_s, Md_spare_s, Md_text_s, Md_typed_s, Md_hasPaid_s, Md_misses_s, Md_potNow_s, Md_read_s, Md_spot_s, Md_wrong_s, o_ne, zle, e2, ↓reduceIte]
  · obtain ⟨a1, a2, -⟩ := h.no (th := th) (past := past) (pm := pm) (sl := sl) (sv := sv) (sp := sp) (tx := tx) (ty := ty) (hp := hp) (mi := mi) (pot := pot) (rd := rd) (spt := spt) (wr := wr) ha
    refine tw_mk (a := .inr (IOB, ())) (b := ((0:Int32), (1, z, past, pm, sl, sv, sp, tx, ty, hp, mi, pot, rd, spt, wr))) ?_ ?_ ⟨1, ⟨rfl, rfl⟩, rfl, 1, rfl⟩
    · simp only [f_X5_chain, a1, bx_r]
    · rw [f_X6_chain, a2]
      simp only [bd_s, lt_e, St_count, St_month, St_contribution, St_box, St_given, St_purse, St_guarantor, St_bid, St_away, St_taken, St_inside, St_paidForItself, St_paidForOthers, St_gotOfPot, St_shares, St_misses, St_debt, St_count_s, St_month_s, St_contribution_s, St_box_s, St_given_s, St_purse_s, St_guarantor_s, St_bid_s, St_away_s, St_taken_s, St_inside_s, St_paidForItself_s, St_paidForOthers_s, St_gotOfPot_s, St_shares_s, St_misses_s, St_debt_s, Rd_paid, Rd_missing, Rd_pence, Rd_paid_s, Rd_missing_s, Rd_pence_s, Md_thrown, Md_z, Md_past, Md_pastMany, Md_slots, Md_isSaved, Md_spare, Md_text, Md_typed, Md_hasPaid, Md_misses, Md_potNow, Md_read, Md_spot, Md_wrong, Md_thrown_s, Md_z_s, Md_past_s, Md_pastMany_s, Md_slots_s, Md_isSaved_s, Md_spare_s, Md_text_s, Md_typed_s, Md_hasPaid_s, Md_misses_s, Md_potNow_s, Md_read_s, Md_spot_s, Md_wrong_s, ole, ↓reduceIte]
end CHAIN
