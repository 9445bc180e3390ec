/-- column j of row n: the places lo .. hi - 1 hold F, all else is as it was -/
def CF (Y Z : zY) (n j : Nat) (F : Nat → Nat → Nat) (lo hi : Nat) : Prop := (∀ q, q ≠ 20 + n → Z q = Y q) ∧ (∀ x, x < tri j ∨ tri j + j < x → Z (20 + n) x = Y (20 + n) x) ∧ ∀ a, lo ≤ a → a < hi → Z (20 + n) (tri j + a) = nI (ci (F a j))
theorem CF.nil {Y : zY} {n j : Nat} {F : Nat → Nat → Nat} {k : Nat} : CF Y Y n j F k k := ⟨fun _ _ => rfl, fun _ _ => rfl, fun a h1 h2 => absurd h1 (by omega)⟩
theorem CF.up {Y Z : zY} {n j : Nat} {F : Nat → Nat → Nat} {i : Nat} {v : Int32} (h : CF Y Z n j F 0 i) (hi : i ≤ j) (hv : v = nI (ci (F i j))) : CF Y (zU Z (20 + n) (tri j + i) v) n j F 0 (i + 1) := ⟨fun q hq => (zU_row hq).trans (h.1 q hq), fun x hx => (zU_nj (by omega)).trans (h.2.1 x hx), fun a h1 h2 => by
  by_cases e : a = i
  · subst e; rw [zU_eq, hv]
  · exact (zU_nj (by omega)).trans (h.2.2 a h1 (by omega))⟩
theorem CF.dn {Y Z : zY} {n j : Nat} {F : Nat → Nat → Nat} {q : Nat} {v : Int32} (h : CF Y Z n j F q (j + 1)) (hq : 1 ≤ q) (hj : q ≤ j + 1) (hv : v = nI (ci (F (q - 1) j))) : CF Y (zU Z (20 + n) (tri j + (q - 1)) v) n j F (q - 1) (j + 1) := ⟨fun p hp => (zU_row hp).trans (h.1 p hp), fun x hx => (zU_nj (by omega)).trans (h.2.1 x hx), fun a h1 h2 => by
  by_cases e : a = q - 1
  · subst e; rw [zU_eq, hv]
  · exact (zU_nj (by omega)).trans (h.2.2 a (by omega) h2)⟩
theorem cSet_jj {st : Nat} {tx : Nat → Nat} {ad mi wr j : Nat} (hm : mi ≤ 9) : mi = ci (cSet st tx ad mi wr j j) := by
  have e : cSet st tx ad mi wr j j = mi := by unfold cSet; rw [if_pos (Nat.sub_self j), Nat.sub_self, Nat.zero_mul]; rfl
  rw [e, ci_lt (by omega)]
theorem ci_min2 {a b : Nat} (ha : a ≤ 1000000) (hb : b ≤ 1000000) : min (ci a) (ci b) = ci (if a < b then a else b) := by
  have h1 : a < b → ci a ≤ ci b := fun h => by unfold ci; split <;> split <;> omega
  have h2 : ¬ a < b → ci b ≤ ci a := fun h => by unfold ci; split <;> split <;> omega
  split
  · rename_i h; have := h1 h; omega
  · rename_i h; have := h2 h; omega
theorem ci_min3 {a b : Nat} (hb : b ≤ 1000) : min b (ci a) = ci (if a < b then a else b) := by
  split
  · rename_i h; rw [ci_lt (by omega)]; omega
  · rename_i h; rw [ci_lt (v := b) (by omega)]
    have : b ≤ ci a := by unfold ci; split <;> omega
    omega
theorem ci_lim {a m : Nat} (hm : m ≤ 99) : (ci a ≤ m → ci a = ci (if a ≤ m then a else 1000000)) ∧ (¬ ci a ≤ m → 268435456 = ci (if a ≤ m then a else 1000000)) := by
  constructor
  · intro h
    have h2 : a ≤ m := by unfold ci at h; split at h <;> omega
    rw [if_pos h2]
  · intro h
    have h2 : ¬ a ≤ m := fun h3 => h (by rw [ci_lt (by omega)]; exact h3)
    rw [if_neg h2, ci_inf (by omega)]
def km (k : Nat) : Nat := if k = 3 then 4 else if k = 4 then 5 else if k = 5 then 3 else k
theorem km_spec {k : Nat} (h : k ≤ 6) : (k = 0 ∧ km k = 0) ∨ (k = 1 ∧ km k = 1) ∨ (k = 2 ∧ km k = 2) ∨ (k = 3 ∧ km k = 4) ∨ (k = 4 ∧ km k = 5) ∨ (k = 5 ∧ km k = 3) ∨ (k = 6 ∧ km k = 6) := by
  revert h; revert k; decide
/-- the Pattern at q holds these nodes -/
def XP (Y : zY) (q nn : Nat) (kd lf rt : Nat → Nat) : Prop := Y q 4 = nI nn ∧ ∀ n, n < nn → Y (q + 1) n = nI (km (kd n)) ∧ Y (q + 2) n = (if kd n = 0 then -1 else nI (lf n)) ∧ Y (q + 3) n = (if kd n = 1 ∨ kd n = 2 then nI (rt n) else -1) ∧ Y (q + 4) n = nI (if kd n = 0 then lf n else if kd n = 6 then rt n else 0)
/-- what the class holds of pattern, text and weights -/
def XC (Y : zY) (nn : Nat) (kd lf rt tx : Nat → Nat) (len ad mi wr : Nat) (sz : Nat → Nat) : Prop := wfN nn kd lf rt ∧ szN nn kd lf rt sz ∧ len ≤ 24 ∧ ad ≤ 9 ∧ mi ≤ 9 ∧ wr ≤ 9 ∧ (∀ q, q < len → 97 ≤ tx q ∧ tx q ≤ 122) ∧ XP Y 11 nn kd lf rt ∧ Y 16 1 = nI len ∧ (∀ q, q < len → Y 17 q = nI (tx q)) ∧ Y 18 3 = nI ad ∧ Y 18 4 = nI mi ∧ Y 18 5 = nI wr
def cOp (x : Int32) (n : Nat) : Int32 := if x < 0 ∨ nI n ≤ x then nI 0 else x
theorem cOp_nat {a n : Nat} (h : a < n) (hn : n < 2 ^ 31) : cOp (nI a) n = nI a := by
  unfold cOp; rw [if_neg]
  rintro (h1 | h1)
  · exact nI_pos (by omega) h1
  · have := (nI_leI hn (by omega)).mp h1; omega
theorem cOp_neg {n : Nat} : cOp (-1) n = nI 0 := by unfold cOp; exact if_pos (Or.inl (by decide))
set_option maxHeartbeats 4000000 in
set_option maxRecDepth 100000 in
theorem kX0_pieceAt (l : Launch) (G : zG) (A : Nat → Nat) (Y : zY) (i j : Nat) (hi : i ≤ 24) (hj : j ≤ 24) : ZI l yX0_pieceAt cX0_pieceAt 2 (.int) 0 0 G A Y [.int (nI i), .int (nI j)] (fun r Y' => r = nI (tri j + i) ∧ Y' = Y) := by
  refine ZI.enter (by decide) (Nat.le_of_ble_eq_true rfl) ?_
  intro p e s m args below meth c R Q hxx hbb S hK hfr hlo hret H ls hP hS hl
  have hB : ∀ q, zAd A q → zAd A q := fun _ h => h
  have hl : lv_has ls 2 [(0, .int (nI i)), (1, .int (nI j))] := hl
  have S : CallFix p m c cX0_pieceAt 2 s args wsL_law RX0 := S
  have hjj : j * (j + 1) ≤ 600 := Nat.mul_le_mul hj (show j + 1 ≤ 25 by omega)
  refine lv_iload_n hxx hbb dX0_pieceAt_0 rfl (lv_at hl 1 rfl) ?_
  refine lv_iload_n hxx hbb dX0_pieceAt_1 rfl (lv_at hl 1 rfl) ?_
  refine lv_iconst (v := nI 1) hxx hbb dX0_pieceAt_2 (by decide) ?_
  refine zaddN S dX0_pieceAt_3 ?_
  refine zmulN S dX0_pieceAt_4 ?_
  refine lv_iconst (v := nI 2) hxx hbb dX0_pieceAt_5 (by decide) ?_
  refine zdivN S (by omega) (by omega) (by omega) dX0_pieceAt_6 ?_
  refine lv_iload_n hxx hbb dX0_pieceAt_7 rfl (lv_at hl 0 rfl) ?_
  refine zaddN S dX0_pieceAt_8 ?_
  exact hret _ _ _ _ _ _ dX0_pieceAt_9 (rfl) hP hS (⟨rfl, rfl⟩)

set_option maxHeartbeats 4000000 in
set_option maxRecDepth 100000 in
theorem kX0_operand (l : Launch) (G : zG) (A : Nat → Nat) (Y : zY) (x : Int32) (n : Nat) (hn : n < 2 ^ 31) : ZI l yX0_operand cX0_operand 2 (.int) 0 0 G A Y [.int x, .int (nI n)] (fun r Y' => r = cOp x n ∧ Y' = Y) := by
  refine ZI.enter (by decide) (Nat.le_of_ble_eq_true rfl) ?_
  intro p e s m args below meth c R Q hxx hbb S hK hfr hlo hret H ls hP hS hl
  have hB : ∀ q, zAd A q → zAd A q := fun _ h => h
  have hl : lv_has ls 2 [(0, .int x), (1, .int (nI n))] := hl
  have S : CallFix p m c cX0_operand 2 s args wsL_law RX0 := S
  refine lv_iload_n hxx hbb dX0_operand_0 rfl (lv_at hl 0 rfl) ?_
  refine lv_if_lt (tgt := 13) hxx hbb dX0_operand_1 (by decide) (fun c_1 => ?_) (fun c_1 => ?_)
  · skip
    refine lv_iconst (v := nI 0) hxx hbb dX0_operand_13 (by decide) ?_
    exact hret _ _ _ _ _ _ dX0_operand_14 (rfl) hP hS (⟨by unfold cOp; first | rw [if_pos (Or.inl ‹_›)] | rw [if_pos (Or.inr ‹_›)] | rw [if_neg (fun z => z.elim ‹¬ x < 0› ‹¬ nI n ≤ x›)], rfl⟩)
  · skip
    refine lv_iload_n hxx hbb dX0_operand_4 rfl (lv_at hl 0 rfl) ?_
    refine lv_iload_n hxx hbb dX0_operand_5 rfl (lv_at hl 1 rfl) ?_
    refine lv_icmp_ge (tgt := 13) hxx hbb dX0_operand_6 (by decide) (fun c_2 => ?_) (fun c_2 => ?_)
    · skip
      refine lv_iconst (v := nI 0) hxx hbb dX0_operand_13 (by decide) ?_
      exact hret _ _ _ _ _ _ dX0_operand_14 (rfl) hP hS (⟨by unfold cOp; first | rw [if_pos (Or.inl ‹_›)] | rw [if_pos (Or.inr ‹_›)] | rw [if_neg (fun z => z.elim ‹¬ x < 0› ‹¬ nI n ≤ x›)], rfl⟩)
    · skip
      refine lv_iload_n hxx hbb dX0_operand_9 rfl (lv_at hl 0 rfl) ?_
      refine lv_goto (tgt := 14) hxx hbb dX0_operand_10 (by decide) ?_
      exact hret _ _ _ _ _ _ dX0_operand_14 (rfl) hP hS (⟨by unfold cOp; first | rw [if_pos (Or.inl ‹_›)] | rw [if_pos (Or.inr ‹_›)] | rw [if_neg (fun z => z.elim ‹¬ x < 0› ‹¬ nI n ≤ x›)], rfl⟩)

set_option maxHeartbeats 4000000 in
set_option maxRecDepth 100000 in
theorem kX0_fillLetter (l : Launch) (G : zG) (A : Nat → Nat) (Y : zY) (n st j : Nat) (tx : Nat → Nat) (len ad mi wr : Nat) (hn : n < 24) (hst : st < 2 ^ 26) (hj : j ≤ 24) (hjl : j ≤ len) (hlen : len ≤ 24) (had : ad ≤ 9) (hmi : mi ≤ 9) (hwr : wr ≤ 9) (htx : ∀ q, q < len → 97 ≤ tx q ∧ tx q ≤ 122) (h16 : Y 16 1 = nI len) (hYt : ∀ q, q < len → Y 17 q = nI (tx q)) (h3 : Y 18 3 = nI ad) (h4 : Y 18 4 = nI mi) (h5 : Y 18 5 = nI wr) : ZV l yX0_fillLetter cX0_fillLetter 9 1 21 G A Y [.ref (A 18), .ref (A (20 + n)), .int (nI st), .ref (A 16), .int (nI j)] (fun Y' => CF Y Y' n j (cSet st tx ad mi wr) 0 (j + 1)) := by
  refine ZV.enter (by decide) (Nat.le_of_ble_eq_true rfl) ?_
  intro p e s m args below meth c R Q hxx hbb S hK hfr hlo hret H ls hP hS hl
  have hB : ∀ q, zAd A q → zAd A q := fun _ h => h
  have hl : lv_has ls 9 [(0, .ref (A 18)), (1, .ref (A (20 + n))), (2, .int (nI st)), (3, .ref (A 16)), (4, .int (nI j))] := hl
  have S : CallFix p m c cX0_fillLetter 9 s args wsL_law RX0 := S
  refine lv_iconst (v := nI 0) hxx hbb dX0_fillLetter_0 (by decide) ?_
  refine lv_istore (lv' := [(5, .int (nI 0)), (0, .ref (A 18)), (1, .ref (A (20 + n))), (2, .int (nI st)), (3, .ref (A 16)), (4, .int (nI j))]) hxx hbb dX0_fillLetter_1 hl (by decide) rfl (fun ls hl => ?_)
  refine lv_aload_n hxx hbb dX0_fillLetter_3 rfl (lv_at hl 2 rfl) ?_
  refine lv_iload hxx hbb dX0_fillLetter_4 (lv_at hl 5 rfl) ?_
  refine lv_iload hxx hbb dX0_fillLetter_6 (lv_at hl 5 rfl) ?_
  refine ZI.callS S hK hP hS hB (kX0_pieceAt l G A Y j j (by omega) (by omega)) zwX0_49 zdX0_pieceAt rfl ⟨Nat.le_trans (by decide) hfr, Nat.le_trans (by decide) hlo⟩ rfl (Nat.le_of_ble_eq_true rfl) hl.1 dX0_fillLetter_8 ⟨Nat.zero_le _, Nat.zero_le _⟩ (fun r_1 Y_2 H locs hq_3 hP hS => ?_)
  obtain ⟨hr9, hY9⟩ := hq_3
  subst hr9; rw [hY9] at hP
  have htr_4 := tri_lt (i := j) (j := j) (by omega) (by omega)
  refine lv_aload_n hxx hbb dX0_fillLetter_11 rfl (lv_at hl 1 rfl) ?_
  refine zgX0_27 S hK hP 18 (by decide) zk_18 (v := nI mi) (h4) dX0_fillLetter_12 ?_
  refine zastN S hK hP hS hB (20 + n) 325 (by omega) (zk_row (by omega)) (zl_row (by omega)) (by omega) dX0_fillLetter_15 (fun H locs hP hS => ?_)
  refine lv_iload hxx hbb dX0_fillLetter_16 (lv_at hl 5 rfl) ?_
  refine lv_iconst (v := nI 1) hxx hbb dX0_fillLetter_18 (by decide) ?_
  refine lv_isub hxx hbb dX0_fillLetter_19 ?_
  refine lv_istore (lv' := [(6, .int ((nI j) - (nI 1))), (5, .int (nI 0)), (0, .ref (A 18)), (1, .ref (A (20 + n))), (2, .int (nI st)), (3, .ref (A 16)), (4, .int (nI j))]) hxx hbb dX0_fillLetter_20 hl (by decide) rfl (fun ls hl => ?_)
  have L_22 : ∀ (N_22 : Nat) (q b : Nat) (t : Int32) (Y1 : zY) (hq : q ≤ j) (ht : t = nI q - nI 1) (hb : b = cFit st tx q (j - q)) (hb1 : b ≤ 1) (hC : CF Y Y1 n j (cSet st tx ad mi wr) q (j + 1)), q < N_22 → ∀ (H : Heap) (locs : List Loc) (ls : Array Slot), va_P G.1 vwCl (zW G A Y1) H → va_S (zAd A) s.heap H locs → lv_has ls 9 [(0, .ref (A 18)), (1, .ref (A (20 + n))), (2, .int (nI st)), (3, .ref (A 16)), (4, .int (nI j)), (5, .int (nI b)), (6, .int t)] → W p l e R s m args below meth c H locs 0 0 Q (F0 m 22 ls []) := by
    intro N_22
    induction N_22 with
    | zero => intro q b t Y1 hq ht hb hb1 hC hm; exact absurd hm (Nat.not_lt_zero _)
    | succ N_22 ih_22 =>
      intro q b t Y1 hq ht hb hb1 hC hm_22 H locs ls hP hS hl
      refine lv_iload hxx hbb dX0_fillLetter_22 (lv_at hl 6 rfl) ?_
      refine lv_if_lt (tgt := 123) hxx hbb dX0_fillLetter_24 (by decide) (fun c_5 => ?_) (fun c_5 => ?_)
      · skip
        have hq0 := z_q0 (q := q) (by omega) (by rw [← ht]; exact c_5)
        exact hret _ _ _ _ _ dX0_fillLetter_123 hP hS (by subst hq0; exact hC)
      · skip
        have hq1 : 1 ≤ q := z_qpos (by rw [← ht]; exact c_5)
        have ht9 := ht.trans (pk_sub hq1)
        subst ht9
        refine lv_iload hxx hbb dX0_fillLetter_27 (lv_at hl 5 rfl) ?_
        refine zif_ne (tgt := 49) S (by omega) dX0_fillLetter_29 (by decide) (fun c_6 => ?_) (fun c_6 => ?_)
        · skip
          refine lv_iconst (v := nI 1) hxx hbb dX0_fillLetter_49 (by decide) ?_
          refine lv_goto (tgt := 54) hxx hbb dX0_fillLetter_50 (by decide) ?_
          refine lv_istore (lv' := [(5, .int (nI 1)), (0, .ref (A 18)), (1, .ref (A (20 + n))), (2, .int (nI st)), (3, .ref (A 16)), (4, .int (nI j)), (6, .int (nI (q - 1)))]) hxx hbb dX0_fillLetter_54 hl (by decide) rfl (fun ls hl => ?_)
          have hm1 := c9 (a := j - (q - 1)) (b := ad) (by omega) had
          have hm2 := c9 (a := j - (q - 1) - 1) (b := ad) (by omega) had
          refine lv_aload_n hxx hbb dX0_fillLetter_56 rfl (lv_at hl 1 rfl) ?_
          refine zgX0_27 S hK hP 18 (by decide) zk_18 (v := nI mi) ((congrFun (hC.1 18 (by omega)) 4).trans h4) dX0_fillLetter_57 ?_
          refine lv_iload hxx hbb dX0_fillLetter_60 (lv_at hl 5 rfl) ?_
          refine lv_iload hxx hbb dX0_fillLetter_62 (lv_at hl 6 rfl) ?_
          refine zsubN S (by omega) dX0_fillLetter_64 ?_
          refine lv_aload_n hxx hbb dX0_fillLetter_65 rfl (lv_at hl 1 rfl) ?_
          refine zgX0_24 S hK hP 18 (by decide) zk_18 (v := nI ad) ((congrFun (hC.1 18 (by omega)) 3).trans h3) dX0_fillLetter_66 ?_
          refine zmulN S dX0_fillLetter_69 ?_
          refine zaddN S dX0_fillLetter_70 ?_
          refine lv_istore (lv' := [(7, .int (nI (mi + ((j - (q - 1)) * ad)))), (5, .int (nI 1)), (0, .ref (A 18)), (1, .ref (A (20 + n))), (2, .int (nI st)), (3, .ref (A 16)), (4, .int (nI j)), (6, .int (nI (q - 1)))]) hxx hbb dX0_fillLetter_71 hl (by decide) rfl (fun ls hl => ?_)
          refine lv_iload hxx hbb dX0_fillLetter_73 (lv_at hl 6 rfl) ?_
          refine lv_iload hxx hbb dX0_fillLetter_75 (lv_at hl 7 rfl) ?_
          refine zsubN S (by omega) dX0_fillLetter_77 ?_
          refine lv_iconst (v := nI 1) hxx hbb dX0_fillLetter_78 (by decide) ?_
          refine zsubN S (by omega) dX0_fillLetter_79 ?_
          refine lv_aload_n hxx hbb dX0_fillLetter_80 rfl (lv_at hl 2 rfl) ?_
          refine zgX0_24 S hK hP 18 (by decide) zk_18 (v := nI ad) ((congrFun (hC.1 18 (by omega)) 3).trans h3) dX0_fillLetter_81 ?_
          refine zmulN S dX0_fillLetter_84 ?_
          refine lv_iload hxx hbb dX0_fillLetter_85 (lv_at hl 1 rfl) ?_
          refine zif_eq (tgt := 94) S (by omega) dX0_fillLetter_87 (by decide) (fun c_7 => ?_) (fun c_7 => ?_)
          · skip
            exact absurd c_7 (by decide)
          · skip
            refine lv_iconst (v := nI 0) hxx hbb dX0_fillLetter_90 (by decide) ?_
            refine lv_goto (tgt := 98) hxx hbb dX0_fillLetter_91 (by decide) ?_
            refine zaddN S dX0_fillLetter_98 ?_
            refine lv_istore (lv' := [(8, .int (nI ((j - (q - 1) - 1) * ad + 0))), (7, .int (nI (mi + ((j - (q - 1)) * ad)))), (5, .int (nI 1)), (0, .ref (A 18)), (1, .ref (A (20 + n))), (2, .int (nI st)), (3, .ref (A 16)), (4, .int (nI j)), (6, .int (nI (q - 1)))]) hxx hbb dX0_fillLetter_99 hl (by decide) rfl (fun ls hl => ?_)
            refine lv_aload_n hxx hbb dX0_fillLetter_101 rfl (lv_at hl 4 rfl) ?_
            refine lv_iload hxx hbb dX0_fillLetter_102 (lv_at hl 8 rfl) ?_
            refine lv_iload hxx hbb dX0_fillLetter_104 (lv_at hl 7 rfl) ?_
            refine ZI.callS S hK hP hS hB (kX0_pieceAt l G A Y1 (q - 1) j (by omega) (by omega)) zwX0_49 zdX0_pieceAt rfl ⟨Nat.le_trans (by decide) hfr, Nat.le_trans (by decide) hlo⟩ rfl (Nat.le_of_ble_eq_true rfl) hl.1 dX0_fillLetter_106 ⟨Nat.zero_le _, Nat.zero_le _⟩ (fun r_8 Y_9 H locs hq_10 hP hS => ?_)
            obtain ⟨hr9, hY9⟩ := hq_10
            subst hr9; rw [hY9] at hP
            have htr_11 := tri_lt (i := (q - 1)) (j := j) (by omega) (by omega)
            refine lv_iload hxx hbb dX0_fillLetter_109 (lv_at hl 1 rfl) ?_
            refine lv_iload hxx hbb dX0_fillLetter_111 (lv_at hl 0 rfl) ?_
            refine zminN S hl.1 zwX0_99 (Nat.le_trans (by decide) hfr) (Nat.le_trans (by decide) hlo) (by omega) (by omega) (Nat.le_of_ble_eq_true rfl) dX0_fillLetter_113 ?_
            refine zastN S hK hP hS hB (20 + n) 325 (by omega) (zk_row (by omega)) (zl_row (by omega)) (by omega) dX0_fillLetter_116 (fun H locs hP hS => ?_)
            refine lv_iinc (v := nI (q - 1) - nI 1) (lv' := [(6, .int (nI (q - 1) - nI 1)), (8, .int (nI ((j - (q - 1) - 1) * ad + 0))), (7, .int (nI (mi + ((j - (q - 1)) * ad)))), (5, .int (nI 1)), (0, .ref (A 18)), (1, .ref (A (20 + n))), (2, .int (nI st)), (3, .ref (A 16)), (4, .int (nI j))]) hxx hbb dX0_fillLetter_117 hl (k := 8) rfl (zdecR _) (by decide) rfl (fun ls hl => ?_)
            refine lv_goto (tgt := 22) hxx hbb dX0_fillLetter_120 (by decide) ?_
            have hb9 : 1 = cFit st tx (q - 1) (j - (q - 1)) := by rw [cFit_back hq1 hq hb]; first | rw [if_pos (by omega)] | (rw [if_neg (by omega)]; first | rw [if_pos (by omega)] | rw [if_neg (by omega)])
            exact ih_22 (q - 1) 1 (nI (q - 1) - nI 1) (zU Y1 (20 + n) (tri j + (q - 1)) (nI (min (mi + ((j - (q - 1)) * ad)) ((j - (q - 1) - 1) * ad + 0)))) (by omega) rfl hb9 (by omega) (hC.dn hq1 (by omega) (by rw [ci_lt (cSet_small had hmi hj), cSet_min hb9 (by omega)]; first | rw [if_pos (by decide)] | rw [if_neg (by decide)])) (by omega) _ _ _ hP hS (lv_sub hl [4, 5, 6, 7, 8, 3, 0] rfl)
        · skip
          refine lv_iload_n hxx hbb dX0_fillLetter_32 rfl (lv_at hl 2 rfl) ?_
          have htx9 := htx (q - 1) (by omega)
          refine lv_aload_n hxx hbb dX0_fillLetter_33 rfl (lv_at hl 3 rfl) ?_
          refine lv_iload hxx hbb dX0_fillLetter_34 (lv_at hl 6 rfl) ?_
          refine ZI.callVN S hK hP hS hB (kX3_letterAt l G A Y1 16 len (q - 1) (tx (q - 1)) zLP_text ((congrFun (hC.1 16 (by omega)) 1).trans h16) hlen (by omega) ((congrFun (hC.1 17 (by omega)) _).trans (hYt _ (by omega))) (by omega)) (znX0_95) zwX0_95 zdX3_letterAt rfl ⟨Nat.le_trans (by decide) hfr, Nat.le_trans (by decide) hlo⟩ (by decide) (zcK3 zk_16) rfl rfl (Nat.le_of_ble_eq_true rfl) hl.1 dX0_fillLetter_36 ⟨Nat.zero_le _, Nat.zero_le _⟩ (fun r_12 Y_13 H locs hq_14 hP hS => ?_)
          obtain ⟨hr9, hY9⟩ := hq_14
          subst hr9; rw [hY9] at hP
          refine lv_bipush (v := nI 97) hxx hbb dX0_fillLetter_39 (by decide) ?_
          refine zsubN S (by omega) dX0_fillLetter_41 ?_
          refine lv_ishr hxx hbb dX0_fillLetter_42 ?_
          refine lv_iconst (v := nI 1) hxx hbb dX0_fillLetter_43 (by decide) ?_
          refine lv_iand hxx hbb dX0_fillLetter_44 ?_
          rw [zbit (by omega) (by omega)]
          refine lv_iconst (v := nI 1) hxx hbb dX0_fillLetter_45 (by decide) ?_
          refine zcmp_ne (tgt := 53) S (by omega) (by omega) dX0_fillLetter_46 (by decide) (fun c_15 => ?_) (fun c_15 => ?_)
          · skip
            refine lv_iconst (v := nI 0) hxx hbb dX0_fillLetter_53 (by decide) ?_
            refine lv_istore (lv' := [(5, .int (nI 0)), (0, .ref (A 18)), (1, .ref (A (20 + n))), (2, .int (nI st)), (3, .ref (A 16)), (4, .int (nI j)), (6, .int (nI (q - 1)))]) hxx hbb dX0_fillLetter_54 hl (by decide) rfl (fun ls hl => ?_)
            have hm1 := c9 (a := j - (q - 1)) (b := ad) (by omega) had
            have hm2 := c9 (a := j - (q - 1) - 1) (b := ad) (by omega) had
            refine lv_aload_n hxx hbb dX0_fillLetter_56 rfl (lv_at hl 1 rfl) ?_
            refine zgX0_27 S hK hP 18 (by decide) zk_18 (v := nI mi) ((congrFun (hC.1 18 (by omega)) 4).trans h4) dX0_fillLetter_57 ?_
            refine lv_iload hxx hbb dX0_fillLetter_60 (lv_at hl 5 rfl) ?_
            refine lv_iload hxx hbb dX0_fillLetter_62 (lv_at hl 6 rfl) ?_
            refine zsubN S (by omega) dX0_fillLetter_64 ?_
            refine lv_aload_n hxx hbb dX0_fillLetter_65 rfl (lv_at hl 1 rfl) ?_
            refine zgX0_24 S hK hP 18 (by decide) zk_18 (v := nI ad) ((congrFun (hC.1 18 (by omega)) 3).trans h3) dX0_fillLetter_66 ?_
            refine zmulN S dX0_fillLetter_69 ?_
            refine zaddN S dX0_fillLetter_70 ?_
            refine lv_istore (lv' := [(7, .int (nI (mi + ((j - (q - 1)) * ad)))), (5, .int (nI 0)), (0, .ref (A 18)), (1, .ref (A (20 + n))), (2, .int (nI st)), (3, .ref (A 16)), (4, .int (nI j)), (6, .int (nI (q - 1)))]) hxx hbb dX0_fillLetter_71 hl (by decide) rfl (fun ls hl => ?_)
            refine lv_iload hxx hbb dX0_fillLetter_73 (lv_at hl 6 rfl) ?_
            refine lv_iload hxx hbb dX0_fillLetter_75 (lv_at hl 7 rfl) ?_
            refine zsubN S (by omega) dX0_fillLetter_77 ?_
            refine lv_iconst (v := nI 1) hxx hbb dX0_fillLetter_78 (by decide) ?_
            refine zsubN S (by omega) dX0_fillLetter_79 ?_
            refine lv_aload_n hxx hbb dX0_fillLetter_80 rfl (lv_at hl 2 rfl) ?_
            refine zgX0_24 S hK hP 18 (by decide) zk_18 (v := nI ad) ((congrFun (hC.1 18 (by omega)) 3).trans h3) dX0_fillLetter_81 ?_
            refine zmulN S dX0_fillLetter_84 ?_
            refine lv_iload hxx hbb dX0_fillLetter_85 (lv_at hl 1 rfl) ?_
            refine zif_eq (tgt := 94) S (by omega) dX0_fillLetter_87 (by decide) (fun c_16 => ?_) (fun c_16 => ?_)
            · skip
              refine lv_aload_n hxx hbb dX0_fillLetter_94 rfl (lv_at hl 2 rfl) ?_
              refine zgX0_30 S hK hP 18 (by decide) zk_18 (v := nI wr) ((congrFun (hC.1 18 (by omega)) 5).trans h5) dX0_fillLetter_95 ?_
              refine zaddN S dX0_fillLetter_98 ?_
              refine lv_istore (lv' := [(8, .int (nI ((j - (q - 1) - 1) * ad + wr))), (7, .int (nI (mi + ((j - (q - 1)) * ad)))), (5, .int (nI 0)), (0, .ref (A 18)), (1, .ref (A (20 + n))), (2, .int (nI st)), (3, .ref (A 16)), (4, .int (nI j)), (6, .int (nI (q - 1)))]) hxx hbb dX0_fillLetter_99 hl (by decide) rfl (fun ls hl => ?_)
              refine lv_aload_n hxx hbb dX0_fillLetter_101 rfl (lv_at hl 4 rfl) ?_
              refine lv_iload hxx hbb dX0_fillLetter_102 (lv_at hl 8 rfl) ?_
              refine lv_iload hxx hbb dX0_fillLetter_104 (lv_at hl 7 rfl) ?_
              refine ZI.callS S hK hP hS hB (kX0_pieceAt l G A Y1 (q - 1) j (by omega) (by omega)) zwX0_49 zdX0_pieceAt rfl ⟨Nat.le_trans (by decide) hfr, Nat.le_trans (by decide) hlo⟩ rfl (Nat.le_of_ble_eq_true rfl) hl.1 dX0_fillLetter_106 ⟨Nat.zero_le _, Nat.zero_le _⟩ (fun r_17 Y_18 H locs hq_19 hP hS => ?_)
              obtain ⟨hr9, hY9⟩ := hq_19
              subst hr9; rw [hY9] at hP
              have htr_20 := tri_lt (i := (q - 1)) (j := j) (by omega) (by omega)
              refine lv_iload hxx hbb dX0_fillLetter_109 (lv_at hl 1 rfl) ?_
              refine lv_iload hxx hbb dX0_fillLetter_111 (lv_at hl 0 rfl) ?_
              refine zminN S hl.1 zwX0_99 (Nat.le_trans (by decide) hfr) (Nat.le_trans (by decide) hlo) (by omega) (by omega) (Nat.le_of_ble_eq_true rfl) dX0_fillLetter_113 ?_
              refine zastN S hK hP hS hB (20 + n) 325 (by omega) (zk_row (by omega)) (zl_row (by omega)) (by omega) dX0_fillLetter_116 (fun H locs hP hS => ?_)
              refine lv_iinc (v := nI (q - 1) - nI 1) (lv' := [(6, .int (nI (q - 1) - nI 1)), (8, .int (nI ((j - (q - 1) - 1) * ad + wr))), (7, .int (nI (mi + ((j - (q - 1)) * ad)))), (5, .int (nI 0)), (0, .ref (A 18)), (1, .ref (A (20 + n))), (2, .int (nI st)), (3, .ref (A 16)), (4, .int (nI j))]) hxx hbb dX0_fillLetter_117 hl (k := 8) rfl (zdecR _) (by decide) rfl (fun ls hl => ?_)
              refine lv_goto (tgt := 22) hxx hbb dX0_fillLetter_120 (by decide) ?_
              have hb9 : 0 = cFit st tx (q - 1) (j - (q - 1)) := by rw [cFit_back hq1 hq hb]; first | rw [if_pos (by omega)] | (rw [if_neg (by omega)]; first | rw [if_pos (by omega)] | rw [if_neg (by omega)])
              exact ih_22 (q - 1) 0 (nI (q - 1) - nI 1) (zU Y1 (20 + n) (tri j + (q - 1)) (nI (min (mi + ((j - (q - 1)) * ad)) ((j - (q - 1) - 1) * ad + wr)))) (by omega) rfl hb9 (by omega) (hC.dn hq1 (by omega) (by rw [ci_lt (cSet_small had hmi hj), cSet_min hb9 (by omega)]; first | rw [if_pos (by decide)] | rw [if_neg (by decide)])) (by omega) _ _ _ hP hS (lv_sub hl [4, 5, 6, 7, 8, 3, 0] rfl)
            · skip
              exact absurd c_16 (by decide)
          · skip
            refine lv_iconst (v := nI 1) hxx hbb dX0_fillLetter_49 (by decide) ?_
            refine lv_goto (tgt := 54) hxx hbb dX0_fillLetter_50 (by decide) ?_
            refine lv_istore (lv' := [(5, .int (nI 1)), (0, .ref (A 18)), (1, .ref (A (20 + n))), (2, .int (nI st)), (3, .ref (A 16)), (4, .int (nI j)), (6, .int (nI (q - 1)))]) hxx hbb dX0_fillLetter_54 hl (by decide) rfl (fun ls hl => ?_)
            have hm1 := c9 (a := j - (q - 1)) (b := ad) (by omega) had
            have hm2 := c9 (a := j - (q - 1) - 1) (b := ad) (by omega) had
            refine lv_aload_n hxx hbb dX0_fillLetter_56 rfl (lv_at hl 1 rfl) ?_
            refine zgX0_27 S hK hP 18 (by decide) zk_18 (v := nI mi) ((congrFun (hC.1 18 (by omega)) 4).trans h4) dX0_fillLetter_57 ?_
            refine lv_iload hxx hbb dX0_fillLetter_60 (lv_at hl 5 rfl) ?_
            refine lv_iload hxx hbb dX0_fillLetter_62 (lv_at hl 6 rfl) ?_
            refine zsubN S (by omega) dX0_fillLetter_64 ?_
            refine lv_aload_n hxx hbb dX0_fillLetter_65 rfl (lv_at hl 1 rfl) ?_
            refine zgX0_24 S hK hP 18 (by decide) zk_18 (v := nI ad) ((congrFun (hC.1 18 (by omega)) 3).trans h3) dX0_fillLetter_66 ?_
            refine zmulN S dX0_fillLetter_69 ?_
            refine zaddN S dX0_fillLetter_70 ?_
            refine lv_istore (lv' := [(7, .int (nI (mi + ((j - (q - 1)) * ad)))), (5, .int (nI 1)), (0, .ref (A 18)), (1, .ref (A (20 + n))), (2, .int (nI st)), (3, .ref (A 16)), (4, .int (nI j)), (6, .int (nI (q - 1)))]) hxx hbb dX0_fillLetter_71 hl (by decide) rfl (fun ls hl => ?_)
            refine lv_iload hxx hbb dX0_fillLetter_73 (lv_at hl 6 rfl) ?_
            refine lv_iload hxx hbb dX0_fillLetter_75 (lv_at hl 7 rfl) ?_
            refine zsubN S (by omega) dX0_fillLetter_77 ?_
            refine lv_iconst (v := nI 1) hxx hbb dX0_fillLetter_78 (by decide) ?_
            refine zsubN S (by omega) dX0_fillLetter_79 ?_
            refine lv_aload_n hxx hbb dX0_fillLetter_80 rfl (lv_at hl 2 rfl) ?_
            refine zgX0_24 S hK hP 18 (by decide) zk_18 (v := nI ad) ((congrFun (hC.1 18 (by omega)) 3).trans h3) dX0_fillLetter_81 ?_
            refine zmulN S dX0_fillLetter_84 ?_
            refine lv_iload hxx hbb dX0_fillLetter_85 (lv_at hl 1 rfl) ?_
            refine zif_eq (tgt := 94) S (by omega) dX0_fillLetter_87 (by decide) (fun c_21 => ?_) (fun c_21 => ?_)
            · skip
              exact absurd c_21 (by decide)
            · skip
              refine lv_iconst (v := nI 0) hxx hbb dX0_fillLetter_90 (by decide) ?_
              refine lv_goto (tgt := 98) hxx hbb dX0_fillLetter_91 (by decide) ?_
              refine zaddN S dX0_fillLetter_98 ?_
              refine lv_istore (lv' := [(8, .int (nI ((j - (q - 1) - 1) * ad + 0))), (7, .int (nI (mi + ((j - (q - 1)) * ad)))), (5, .int (nI 1)), (0, .ref (A 18)), (1, .ref (A (20 + n))), (2, .int (nI st)), (3, .ref (A 16)), (4, .int (nI j)), (6, .int (nI (q - 1)))]) hxx hbb dX0_fillLetter_99 hl (by decide) rfl (fun ls hl => ?_)
              refine lv_aload_n hxx hbb dX0_fillLetter_101 rfl (lv_at hl 4 rfl) ?_
              refine lv_iload hxx hbb dX0_fillLetter_102 (lv_at hl 8 rfl) ?_
              refine lv_iload hxx hbb dX0_fillLetter_104 (lv_at hl 7 rfl) ?_
              refine ZI.callS S hK hP hS hB (kX0_pieceAt l G A Y1 (q - 1) j (by omega) (by omega)) zwX0_49 zdX0_pieceAt rfl ⟨Nat.le_trans (by decide) hfr, Nat.le_trans (by decide) hlo⟩ rfl (Nat.le_of_ble_eq_true rfl) hl.1 dX0_fillLetter_106 ⟨Nat.zero_le _, Nat.zero_le _⟩ (fun r_22 Y_23 H locs hq_24 hP hS => ?_)
              obtain ⟨hr9, hY9⟩ := hq_24
              subst hr9; rw [hY9] at hP
              have htr_25 := tri_lt (i := (q - 1)) (j := j) (by omega) (by omega)
              refine lv_iload hxx hbb dX0_fillLetter_109 (lv_at hl 1 rfl) ?_
              refine lv_iload hxx hbb dX0_fillLetter_111 (lv_at hl 0 rfl) ?_
              refine zminN S hl.1 zwX0_99 (Nat.le_trans (by decide) hfr) (Nat.le_trans (by decide) hlo) (by omega) (by omega) (Nat.le_of_ble_eq_true rfl) dX0_fillLetter_113 ?_
              refine zastN S hK hP hS hB (20 + n) 325 (by omega) (zk_row (by omega)) (zl_row (by omega)) (by omega) dX0_fillLetter_116 (fun H locs hP hS => ?_)
              refine lv_iinc (v := nI (q - 1) - nI 1) (lv' := [(6, .int (nI (q - 1) - nI 1)), (8, .int (nI ((j - (q - 1) - 1) * ad + 0))), (7, .int (nI (mi + ((j - (q - 1)) * ad)))), (5, .int (nI 1)), (0, .ref (A 18)), (1, .ref (A (20 + n))), (2, .int (nI st)), (3, .ref (A 16)), (4, .int (nI j))]) hxx hbb dX0_fillLetter_117 hl (k := 8) rfl (zdecR _) (by decide) rfl (fun ls hl => ?_)
              refine lv_goto (tgt := 22) hxx hbb dX0_fillLetter_120 (by decide) ?_
              have hb9 : 1 = cFit st tx (q - 1) (j - (q - 1)) := by rw [cFit_back hq1 hq hb]; first | rw [if_pos (by omega)] | (rw [if_neg (by omega)]; first | rw [if_pos (by omega)] | rw [if_neg (by omega)])
              exact ih_22 (q - 1) 1 (nI (q - 1) - nI 1) (zU Y1 (20 + n) (tri j + (q - 1)) (nI (min (mi + ((j - (q - 1)) * ad)) ((j - (q - 1) - 1) * ad + 0)))) (by omega) rfl hb9 (by omega) (hC.dn hq1 (by omega) (by rw [ci_lt (cSet_small had hmi hj), cSet_min hb9 (by omega)]; first | rw [if_pos (by decide)] | rw [if_neg (by decide)])) (by omega) _ _ _ hP hS (lv_sub hl [4, 5, 6, 7, 8, 3, 0] rfl)
  exact L_22 (_ + 1) j 0 (nI j - nI 1) (zU Y (20 + n) (tri j + j) (nI mi)) (by omega) rfl (by rw [Nat.sub_self]; rfl) (by omega) (⟨fun p hp => zU_row hp, fun x hx => zU_nj (by omega), fun a h1 h2 => by rw [show a = j by omega, zU_eq]; exact congrArg nI (cSet_jj hmi)⟩) (Nat.lt_succ_self _) _ _ _ hP hS (lv_sub hl [2, 3, 4, 5, 6, 1, 0] rfl)

set_option maxHeartbeats 4000000 in
set_option maxRecDepth 100000 in
theorem kX0_fillRow (l : Launch) (G : zG) (A : Nat → Nat) (Y : zY) (n a b j : Nat) (f g : Nat → Nat → Nat) (hn : n < 24) (ha : a < 24) (hb : b < 24) (hna : a ≠ n) (hnb : b ≠ n) (hj : j ≤ 24) (hf : ∀ i k, i ≤ k → k ≤ j → Y (20 + a) (tri k + i) = nI (ci (f i k)) ∧ f i k ≤ 1000000) (hg : ∀ i k, i ≤ k → k ≤ j → Y (20 + b) (tri k + i) = nI (ci (g i k)) ∧ g i k ≤ 1000000) (hsum : ∀ i k, i ≤ k → k ≤ j → f i k < 1000000 → g k j < 1000000 → f i k + g k j < 1000000) : ZV l yX0_fillRow cX0_fillRow 8 1 21 G A Y [.ref (A 18), .ref (A (20 + n)), .ref (A (20 + a)), .ref (A (20 + b)), .int (nI j)] (fun Y' => CF Y Y' n j (fun i j => cRow f g i j (j - i + 1)) 0 (j + 1)) := by
  refine ZV.enter (by decide) (Nat.le_of_ble_eq_true rfl) ?_
  intro p e s m args below meth c R Q hxx hbb S hK hfr hlo hret H ls hP hS hl
  have hB : ∀ q, zAd A q → zAd A q := fun _ h => h
  have hl : lv_has ls 8 [(0, .ref (A 18)), (1, .ref (A (20 + n))), (2, .ref (A (20 + a))), (3, .ref (A (20 + b))), (4, .int (nI j))] := hl
  have S : CallFix p m c cX0_fillRow 8 s args wsL_law RX0 := S
  refine lv_iconst (v := nI 0) hxx hbb dX0_fillRow_0 (by decide) ?_
  refine lv_istore (lv' := [(5, .int (nI 0)), (0, .ref (A 18)), (1, .ref (A (20 + n))), (2, .ref (A (20 + a))), (3, .ref (A (20 + b))), (4, .int (nI j))]) hxx hbb dX0_fillRow_1 hl (by decide) rfl (fun ls hl => ?_)
  have L_3 : ∀ (N_3 : Nat) (i : Nat) (Y1 : zY) (hi : i ≤ j + 1) (hC : CF Y Y1 n j (fun i j => cRow f g i j (j - i + 1)) 0 i), j + 1 - i < N_3 → ∀ (H : Heap) (locs : List Loc) (ls : Array Slot), va_P G.1 vwCl (zW G A Y1) H → va_S (zAd A) s.heap H locs → lv_has ls 8 [(0, .ref (A 18)), (1, .ref (A (20 + n))), (2, .ref (A (20 + a))), (3, .ref (A (20 + b))), (4, .int (nI j)), (5, .int (nI i))] → W p l e R s m args below meth c H locs 0 0 Q (F0 m 3 ls []) := by
    intro N_3
    induction N_3 with
    | zero => intro i Y1 hi hC hm; exact absurd hm (Nat.not_lt_zero _)
    | succ N_3 ih_3 =>
      intro i Y1 hi hC hm_3 H locs ls hP hS hl
      refine lv_iload hxx hbb dX0_fillRow_3 (lv_at hl 5 rfl) ?_
      refine lv_iload hxx hbb dX0_fillRow_5 (lv_at hl 4 rfl) ?_
      refine zcmp_gt (tgt := 74) S (by omega) (by omega) dX0_fillRow_7 (by decide) (fun c_1 => ?_) (fun c_1 => ?_)
      · skip
        exact hret _ _ _ _ _ dX0_fillRow_74 hP hS (by rw [show j + 1 = i by omega]; exact hC)
      · skip
        refine zldc S (v := 268435456) zxX0_48 dX0_fillRow_10 ?_
        rw [show (268435456 : Int32) = nI 268435456 from rfl]
        refine lv_istore (lv' := [(6, .int (nI 268435456)), (0, .ref (A 18)), (1, .ref (A (20 + n))), (2, .ref (A (20 + a))), (3, .ref (A (20 + b))), (4, .int (nI j)), (5, .int (nI i))]) hxx hbb dX0_fillRow_12 hl (by decide) rfl (fun ls hl => ?_)
        refine lv_iload hxx hbb dX0_fillRow_14 (lv_at hl 6 rfl) ?_
        refine lv_istore (lv' := [(7, .int (nI i)), (6, .int (nI 268435456)), (0, .ref (A 18)), (1, .ref (A (20 + n))), (2, .ref (A (20 + a))), (3, .ref (A (20 + b))), (4, .int (nI j)), (5, .int (nI i))]) hxx hbb dX0_fillRow_16 hl (by decide) rfl (fun ls hl => ?_)
        have L_18 : ∀ (N_18 : Nat) (q u : Nat) (hq : q ≤ j - i + 1) (hu : u = ci (cRow f g i j q)), j + 1 - i - q < N_18 → ∀ (H : Heap) (locs : List Loc) (ls : Array Slot), va_P G.1 vwCl (zW G A Y1) H → va_S (zAd A) s.heap H locs → lv_has ls 8 [(0, .ref (A 18)), (1, .ref (A (20 + n))), (2, .ref (A (20 + a))), (3, .ref (A (20 + b))), (4, .int (nI j)), (5, .int (nI i)), (6, .int (nI u)), (7, .int (nI (i + q)))] → W p l e R s m args below meth c H locs 0 0 Q (F0 m 18 ls []) := by
          intro N_18
          induction N_18 with
          | zero => intro q u hq hu hm; exact absurd hm (Nat.not_lt_zero _)
          | succ N_18 ih_18 =>
            intro q u hq hu hm_18 H locs ls hP hS hl
            refine lv_iload hxx hbb dX0_fillRow_18 (lv_at hl 7 rfl) ?_
            refine lv_iload hxx hbb dX0_fillRow_20 (lv_at hl 4 rfl) ?_
            refine zcmp_gt (tgt := 57) S (by omega) (by omega) dX0_fillRow_22 (by decide) (fun c_2 => ?_) (fun c_2 => ?_)
            · skip
              refine lv_aload_n hxx hbb dX0_fillRow_57 rfl (lv_at hl 1 rfl) ?_
              refine lv_iload hxx hbb dX0_fillRow_58 (lv_at hl 5 rfl) ?_
              refine lv_iload hxx hbb dX0_fillRow_60 (lv_at hl 4 rfl) ?_
              refine ZI.callS S hK hP hS hB (kX0_pieceAt l G A Y1 i j (by omega) (by omega)) zwX0_49 zdX0_pieceAt rfl ⟨Nat.le_trans (by decide) hfr, Nat.le_trans (by decide) hlo⟩ rfl (Nat.le_of_ble_eq_true rfl) hl.1 dX0_fillRow_62 ⟨Nat.zero_le _, Nat.zero_le _⟩ (fun r_3 Y_4 H locs hq_5 hP hS => ?_)
              obtain ⟨hr9, hY9⟩ := hq_5
              subst hr9; rw [hY9] at hP
              have htr_6 := tri_lt (i := i) (j := j) (by omega) (by omega)
              refine lv_iload hxx hbb dX0_fillRow_65 (lv_at hl 6 rfl) ?_
              refine zastN S hK hP hS hB (20 + n) 325 (by omega) (zk_row (by omega)) (zl_row (by omega)) (by omega) dX0_fillRow_67 (fun H locs hP hS => ?_)
              refine lv_iinc (v := nI (i + 1)) (lv' := [(5, .int (nI (i + 1))), (0, .ref (A 18)), (1, .ref (A (20 + n))), (2, .ref (A (20 + a))), (3, .ref (A (20 + b))), (4, .int (nI j)), (6, .int (nI u)), (7, .int (nI (i + q)))]) hxx hbb dX0_fillRow_68 hl (k := 5) rfl (zinc1 _) (by decide) rfl (fun ls hl => ?_)
              refine lv_goto (tgt := 3) hxx hbb dX0_fillRow_71 (by decide) ?_
              exact ih_3 (i + 1) (zU Y1 (20 + n) (tri j + i) (nI u)) (by omega) (hC.up (by omega) (by rw [hu, show q = j - i + 1 by omega])) (by omega) _ _ _ hP hS (lv_sub hl [1, 2, 3, 4, 5, 0] rfl)
            · skip
              refine lv_iload hxx hbb dX0_fillRow_25 (lv_at hl 6 rfl) ?_
              refine lv_aload_n hxx hbb dX0_fillRow_27 rfl (lv_at hl 2 rfl) ?_
              refine lv_iload hxx hbb dX0_fillRow_28 (lv_at hl 5 rfl) ?_
              refine lv_iload hxx hbb dX0_fillRow_30 (lv_at hl 7 rfl) ?_
              refine ZI.callS S hK hP hS hB (kX0_pieceAt l G A Y1 i (i + q) (by omega) (by omega)) zwX0_49 zdX0_pieceAt rfl ⟨Nat.le_trans (by decide) hfr, Nat.le_trans (by decide) hlo⟩ rfl (Nat.le_of_ble_eq_true rfl) hl.1 dX0_fillRow_32 ⟨Nat.zero_le _, Nat.zero_le _⟩ (fun r_7 Y_8 H locs hq_9 hP hS => ?_)
              obtain ⟨hr9, hY9⟩ := hq_9
              subst hr9; rw [hY9] at hP
              have htr_10 := tri_lt (i := i) (j := (i + q)) (by omega) (by omega)
              refine zaldN S hK hP (20 + a) 325 (by omega) (zk_row (by omega)) (zl_row (by omega)) (by omega) (v := nI (ci (f i (i + q)))) ((congrFun (hC.1 (20 + a) (by omega)) _).trans (hf i (i + q) (by omega) (by omega)).1) dX0_fillRow_35 ?_
              refine lv_aload_n hxx hbb dX0_fillRow_36 rfl (lv_at hl 3 rfl) ?_
              refine lv_iload hxx hbb dX0_fillRow_37 (lv_at hl 7 rfl) ?_
              refine lv_iload hxx hbb dX0_fillRow_39 (lv_at hl 4 rfl) ?_
              refine ZI.callS S hK hP hS hB (kX0_pieceAt l G A Y1 (i + q) j (by omega) (by omega)) zwX0_49 zdX0_pieceAt rfl ⟨Nat.le_trans (by decide) hfr, Nat.le_trans (by decide) hlo⟩ rfl (Nat.le_of_ble_eq_true rfl) hl.1 dX0_fillRow_41 ⟨Nat.zero_le _, Nat.zero_le _⟩ (fun r_11 Y_12 H locs hq_13 hP hS => ?_)
              obtain ⟨hr9, hY9⟩ := hq_13
              subst hr9; rw [hY9] at hP
              have htr_14 := tri_lt (i := (i + q)) (j := j) (by omega) (by omega)
              refine zaldN S hK hP (20 + b) 325 (by omega) (zk_row (by omega)) (zl_row (by omega)) (by omega) (v := nI (ci (g (i + q) j))) ((congrFun (hC.1 (20 + b) (by omega)) _).trans (hg (i + q) j (by omega) (by omega)).1) dX0_fillRow_44 ?_
              have hz1 := ci_le (f i (i + q))
              have hz2 := ci_le (g (i + q) j)
              have hz3 := ci_le (cRow f g i j q)
              refine zaddN S dX0_fillRow_45 ?_
              refine zminN S hl.1 zwX0_99 (Nat.le_trans (by decide) hfr) (Nat.le_trans (by decide) hlo) (by omega) (by omega) (Nat.le_of_ble_eq_true rfl) dX0_fillRow_46 ?_
              refine lv_istore (lv' := [(6, .int (nI (min u (ci (f i (i + q)) + (ci (g (i + q) j)))))), (0, .ref (A 18)), (1, .ref (A (20 + n))), (2, .ref (A (20 + a))), (3, .ref (A (20 + b))), (4, .int (nI j)), (5, .int (nI i)), (7, .int (nI (i + q)))]) hxx hbb dX0_fillRow_49 hl (by decide) rfl (fun ls hl => ?_)
              refine lv_iinc (v := nI (i + q + 1)) (lv' := [(7, .int (nI (i + q + 1))), (6, .int (nI (min u (ci (f i (i + q)) + (ci (g (i + q) j)))))), (0, .ref (A 18)), (1, .ref (A (20 + n))), (2, .ref (A (20 + a))), (3, .ref (A (20 + b))), (4, .int (nI j)), (5, .int (nI i))]) hxx hbb dX0_fillRow_51 hl (k := 7) rfl (zinc1 _) (by decide) rfl (fun ls hl => ?_)
              refine lv_goto (tgt := 18) hxx hbb dX0_fillRow_54 (by decide) ?_
              exact ih_18 (q + 1) (min u (ci (f i (i + q)) + (ci (g (i + q) j)))) (by omega) (by rw [hu, ci_min (cRow_le _) (hsum i (i + q) (by omega) (by omega))]; rfl) (by omega) _ _ _ hP hS (lv_sub hl [2, 3, 4, 5, 6, 7, 1, 0] rfl)
        exact L_18 (_ + 1) 0 268435456 (by omega) ((ci_inf (v := 1000000) (by decide)).symm) (Nat.lt_succ_self _) _ _ _ hP hS (lv_sub hl [2, 3, 4, 5, 6, 7, 1, 0] rfl)
  exact L_3 (_ + 1) 0 Y (by omega) CF.nil (Nat.lt_succ_self _) _ _ _ hP hS (lv_sub hl [1, 2, 3, 4, 5, 0] rfl)

set_option maxHeartbeats 4000000 in
set_option maxRecDepth 100000 in
theorem kX0_fillEither (l : Launch) (G : zG) (A : Nat → Nat) (Y : zY) (n a b j : Nat) (f g : Nat → Nat → Nat) (hn : n < 24) (ha : a < 24) (hb : b < 24) (hna : a ≠ n) (hnb : b ≠ n) (hj : j ≤ 24) (hf : ∀ i k, i ≤ k → k ≤ j → Y (20 + a) (tri k + i) = nI (ci (f i k)) ∧ f i k ≤ 1000000) (hg : ∀ i k, i ≤ k → k ≤ j → Y (20 + b) (tri k + i) = nI (ci (g i k)) ∧ g i k ≤ 1000000) : ZV l yX0_fillEither cX0_fillEither 6 1 21 G A Y [.ref (A 18), .ref (A (20 + n)), .ref (A (20 + a)), .ref (A (20 + b)), .int (nI j)] (fun Y' => CF Y Y' n j (fun i j => if f i j < g i j then f i j else g i j) 0 (j + 1)) := by
  refine ZV.enter (by decide) (Nat.le_of_ble_eq_true rfl) ?_
  intro p e s m args below meth c R Q hxx hbb S hK hfr hlo hret H ls hP hS hl
  have hB : ∀ q, zAd A q → zAd A q := fun _ h => h
  have hl : lv_has ls 6 [(0, .ref (A 18)), (1, .ref (A (20 + n))), (2, .ref (A (20 + a))), (3, .ref (A (20 + b))), (4, .int (nI j))] := hl
  have S : CallFix p m c cX0_fillEither 6 s args wsL_law RX0 := S
  refine lv_iconst (v := nI 0) hxx hbb dX0_fillEither_0 (by decide) ?_
  refine lv_istore (lv' := [(5, .int (nI 0)), (0, .ref (A 18)), (1, .ref (A (20 + n))), (2, .ref (A (20 + a))), (3, .ref (A (20 + b))), (4, .int (nI j))]) hxx hbb dX0_fillEither_1 hl (by decide) rfl (fun ls hl => ?_)
  have L_3 : ∀ (N_3 : Nat) (i : Nat) (Y1 : zY) (hi : i ≤ j + 1) (hC : CF Y Y1 n j (fun i j => if f i j < g i j then f i j else g i j) 0 i), j + 1 - i < N_3 → ∀ (H : Heap) (locs : List Loc) (ls : Array Slot), va_P G.1 vwCl (zW G A Y1) H → va_S (zAd A) s.heap H locs → lv_has ls 6 [(0, .ref (A 18)), (1, .ref (A (20 + n))), (2, .ref (A (20 + a))), (3, .ref (A (20 + b))), (4, .int (nI j)), (5, .int (nI i))] → W p l e R s m args below meth c H locs 0 0 Q (F0 m 3 ls []) := by
    intro N_3
    induction N_3 with
    | zero => intro i Y1 hi hC hm; exact absurd hm (Nat.not_lt_zero _)
    | succ N_3 ih_3 =>
      intro i Y1 hi hC hm_3 H locs ls hP hS hl
      refine lv_iload hxx hbb dX0_fillEither_3 (lv_at hl 5 rfl) ?_
      refine lv_iload hxx hbb dX0_fillEither_5 (lv_at hl 4 rfl) ?_
      refine zcmp_gt (tgt := 46) S (by omega) (by omega) dX0_fillEither_7 (by decide) (fun c_1 => ?_) (fun c_1 => ?_)
      · skip
        exact hret _ _ _ _ _ dX0_fillEither_46 hP hS (by rw [show j + 1 = i by omega]; exact hC)
      · skip
        refine lv_aload_n hxx hbb dX0_fillEither_10 rfl (lv_at hl 1 rfl) ?_
        refine lv_iload hxx hbb dX0_fillEither_11 (lv_at hl 5 rfl) ?_
        refine lv_iload hxx hbb dX0_fillEither_13 (lv_at hl 4 rfl) ?_
        refine ZI.callS S hK hP hS hB (kX0_pieceAt l G A Y1 i j (by omega) (by omega)) zwX0_49 zdX0_pieceAt rfl ⟨Nat.le_trans (by decide) hfr, Nat.le_trans (by decide) hlo⟩ rfl (Nat.le_of_ble_eq_true rfl) hl.1 dX0_fillEither_15 ⟨Nat.zero_le _, Nat.zero_le _⟩ (fun r_2 Y_3 H locs hq_4 hP hS => ?_)
        obtain ⟨hr9, hY9⟩ := hq_4
        subst hr9; rw [hY9] at hP
        have htr_5 := tri_lt (i := i) (j := j) (by omega) (by omega)
        refine lv_aload_n hxx hbb dX0_fillEither_18 rfl (lv_at hl 2 rfl) ?_
        refine lv_iload hxx hbb dX0_fillEither_19 (lv_at hl 5 rfl) ?_
        refine lv_iload hxx hbb dX0_fillEither_21 (lv_at hl 4 rfl) ?_
        refine ZI.callS S hK hP hS hB (kX0_pieceAt l G A Y1 i j (by omega) (by omega)) zwX0_49 zdX0_pieceAt rfl ⟨Nat.le_trans (by decide) hfr, Nat.le_trans (by decide) hlo⟩ rfl (Nat.le_of_ble_eq_true rfl) hl.1 dX0_fillEither_23 ⟨Nat.zero_le _, Nat.zero_le _⟩ (fun r_6 Y_7 H locs hq_8 hP hS => ?_)
        obtain ⟨hr9, hY9⟩ := hq_8
        subst hr9; rw [hY9] at hP
        have htr_9 := tri_lt (i := i) (j := j) (by omega) (by omega)
        refine zaldN S hK hP (20 + a) 325 (by omega) (zk_row (by omega)) (zl_row (by omega)) (by omega) (v := nI (ci (f i j))) ((congrFun (hC.1 (20 + a) (by omega)) _).trans (hf i j (by omega) (by omega)).1) dX0_fillEither_26 ?_
        refine lv_aload_n hxx hbb dX0_fillEither_27 rfl (lv_at hl 3 rfl) ?_
        refine lv_iload hxx hbb dX0_fillEither_28 (lv_at hl 5 rfl) ?_
        refine lv_iload hxx hbb dX0_fillEither_30 (lv_at hl 4 rfl) ?_
        refine ZI.callS S hK hP hS hB (kX0_pieceAt l G A Y1 i j (by omega) (by omega)) zwX0_49 zdX0_pieceAt rfl ⟨Nat.le_trans (by decide) hfr, Nat.le_trans (by decide) hlo⟩ rfl (Nat.le_of_ble_eq_true rfl) hl.1 dX0_fillEither_32 ⟨Nat.zero_le _, Nat.zero_le _⟩ (fun r_10 Y_11 H locs hq_12 hP hS => ?_)
        obtain ⟨hr9, hY9⟩ := hq_12
        subst hr9; rw [hY9] at hP
        have htr_13 := tri_lt (i := i) (j := j) (by omega) (by omega)
        refine zaldN S hK hP (20 + b) 325 (by omega) (zk_row (by omega)) (zl_row (by omega)) (by omega) (v := nI (ci (g i j))) ((congrFun (hC.1 (20 + b) (by omega)) _).trans (hg i j (by omega) (by omega)).1) dX0_fillEither_35 ?_
        have hz1 := ci_le (f i j)
        have hz2 := ci_le (g i j)
        refine zminN S hl.1 zwX0_99 (Nat.le_trans (by decide) hfr) (Nat.le_trans (by decide) hlo) (by omega) (by omega) (Nat.le_of_ble_eq_true rfl) dX0_fillEither_36 ?_
        refine zastN S hK hP hS hB (20 + n) 325 (by omega) (zk_row (by omega)) (zl_row (by omega)) (by omega) dX0_fillEither_39 (fun H locs hP hS => ?_)
        refine lv_iinc (v := nI (i + 1)) (lv' := [(5, .int (nI (i + 1))), (0, .ref (A 18)), (1, .ref (A (20 + n))), (2, .ref (A (20 + a))), (3, .ref (A (20 + b))), (4, .int (nI j))]) hxx hbb dX0_fillEither_40 hl (k := 5) rfl (zinc1 _) (by decide) rfl (fun ls hl => ?_)
        refine lv_goto (tgt := 3) hxx hbb dX0_fillEither_43 (by decide) ?_
        exact ih_3 (i + 1) (zU Y1 (20 + n) (tri j + i) (nI (min (ci (f i j)) (ci (g i j))))) (by omega) (hC.up (by omega) (by rw [ci_min2 (hf i j (by omega) (by omega)).2 (hg i j (by omega) (by omega)).2])) (by omega) _ _ _ hP hS (lv_sub hl [1, 2, 3, 4, 5, 0] rfl)
  exact L_3 (_ + 1) 0 Y (by omega) CF.nil (Nat.lt_succ_self _) _ _ _ hP hS (lv_sub hl [1, 2, 3, 4, 5, 0] rfl)

set_option maxHeartbeats 4000000 in
set_option maxRecDepth 100000 in
theorem kX0_fillMaybe (l : Launch) (G : zG) (A : Nat → Nat) (Y : zY) (n a j ad : Nat) (f : Nat → Nat → Nat) (hn : n < 24) (ha : a < 24) (hna : a ≠ n) (hj : j ≤ 24) (had : ad ≤ 9) (h3 : Y 18 3 = nI ad) (hf : ∀ i k, i ≤ k → k ≤ j → Y (20 + a) (tri k + i) = nI (ci (f i k)) ∧ f i k ≤ 1000000) : ZV l yX0_fillMaybe cX0_fillMaybe 5 1 21 G A Y [.ref (A 18), .ref (A (20 + n)), .ref (A (20 + a)), .int (nI j)] (fun Y' => CF Y Y' n j (fun i j => if f i j < (j - i) * ad then f i j else (j - i) * ad) 0 (j + 1)) := by
  refine ZV.enter (by decide) (Nat.le_of_ble_eq_true rfl) ?_
  intro p e s m args below meth c R Q hxx hbb S hK hfr hlo hret H ls hP hS hl
  have hB : ∀ q, zAd A q → zAd A q := fun _ h => h
  have hl : lv_has ls 5 [(0, .ref (A 18)), (1, .ref (A (20 + n))), (2, .ref (A (20 + a))), (3, .int (nI j))] := hl
  have S : CallFix p m c cX0_fillMaybe 5 s args wsL_law RX0 := S
  refine lv_iconst (v := nI 0) hxx hbb dX0_fillMaybe_0 (by decide) ?_
  refine lv_istore (lv' := [(4, .int (nI 0)), (0, .ref (A 18)), (1, .ref (A (20 + n))), (2, .ref (A (20 + a))), (3, .int (nI j))]) hxx hbb dX0_fillMaybe_1 hl (by decide) rfl (fun ls hl => ?_)
  have L_3 : ∀ (N_3 : Nat) (i : Nat) (Y1 : zY) (hi : i ≤ j + 1) (hC : CF Y Y1 n j (fun i j => if f i j < (j - i) * ad then f i j else (j - i) * ad) 0 i), j + 1 - i < N_3 → ∀ (H : Heap) (locs : List Loc) (ls : Array Slot), va_P G.1 vwCl (zW G A Y1) H → va_S (zAd A) s.heap H locs → lv_has ls 5 [(0, .ref (A 18)), (1, .ref (A (20 + n))), (2, .ref (A (20 + a))), (3, .int (nI j)), (4, .int (nI i))] → W p l e R s m args below meth c H locs 0 0 Q (F0 m 3 ls []) := by
    intro N_3
    induction N_3 with
    | zero => intro i Y1 hi hC hm; exact absurd hm (Nat.not_lt_zero _)
    | succ N_3 ih_3 =>
      intro i Y1 hi hC hm_3 H locs ls hP hS hl
      refine lv_iload hxx hbb dX0_fillMaybe_3 (lv_at hl 4 rfl) ?_
      refine lv_iload_n hxx hbb dX0_fillMaybe_5 rfl (lv_at hl 3 rfl) ?_
      refine zcmp_gt (tgt := 43) S (by omega) (by omega) dX0_fillMaybe_6 (by decide) (fun c_1 => ?_) (fun c_1 => ?_)
      · skip
        exact hret _ _ _ _ _ dX0_fillMaybe_43 hP hS (by rw [show j + 1 = i by omega]; exact hC)
      · skip
        refine lv_aload_n hxx hbb dX0_fillMaybe_9 rfl (lv_at hl 1 rfl) ?_
        refine lv_iload hxx hbb dX0_fillMaybe_10 (lv_at hl 4 rfl) ?_
        refine lv_iload_n hxx hbb dX0_fillMaybe_12 rfl (lv_at hl 3 rfl) ?_
        refine ZI.callS S hK hP hS hB (kX0_pieceAt l G A Y1 i j (by omega) (by omega)) zwX0_49 zdX0_pieceAt rfl ⟨Nat.le_trans (by decide) hfr, Nat.le_trans (by decide) hlo⟩ rfl (Nat.le_of_ble_eq_true rfl) hl.1 dX0_fillMaybe_13 ⟨Nat.zero_le _, Nat.zero_le _⟩ (fun r_2 Y_3 H locs hq_4 hP hS => ?_)
        obtain ⟨hr9, hY9⟩ := hq_4
        subst hr9; rw [hY9] at hP
        have htr_5 := tri_lt (i := i) (j := j) (by omega) (by omega)
        refine lv_iload_n hxx hbb dX0_fillMaybe_16 rfl (lv_at hl 3 rfl) ?_
        refine lv_iload hxx hbb dX0_fillMaybe_17 (lv_at hl 4 rfl) ?_
        refine zsubN S (by omega) dX0_fillMaybe_19 ?_
        refine lv_aload_n hxx hbb dX0_fillMaybe_20 rfl (lv_at hl 0 rfl) ?_
        refine zgX0_24 S hK hP 18 (by decide) zk_18 (v := nI ad) ((congrFun (hC.1 18 (by omega)) 3).trans h3) dX0_fillMaybe_21 ?_
        refine zmulN S dX0_fillMaybe_24 ?_
        refine lv_aload_n hxx hbb dX0_fillMaybe_25 rfl (lv_at hl 2 rfl) ?_
        refine lv_iload hxx hbb dX0_fillMaybe_26 (lv_at hl 4 rfl) ?_
        refine lv_iload_n hxx hbb dX0_fillMaybe_28 rfl (lv_at hl 3 rfl) ?_
        refine ZI.callS S hK hP hS hB (kX0_pieceAt l G A Y1 i j (by omega) (by omega)) zwX0_49 zdX0_pieceAt rfl ⟨Nat.le_trans (by decide) hfr, Nat.le_trans (by decide) hlo⟩ rfl (Nat.le_of_ble_eq_true rfl) hl.1 dX0_fillMaybe_29 ⟨Nat.zero_le _, Nat.zero_le _⟩ (fun r_6 Y_7 H locs hq_8 hP hS => ?_)
        obtain ⟨hr9, hY9⟩ := hq_8
        subst hr9; rw [hY9] at hP
        have htr_9 := tri_lt (i := i) (j := j) (by omega) (by omega)
        refine zaldN S hK hP (20 + a) 325 (by omega) (zk_row (by omega)) (zl_row (by omega)) (by omega) (v := nI (ci (f i j))) ((congrFun (hC.1 (20 + a) (by omega)) _).trans (hf i j (by omega) (by omega)).1) dX0_fillMaybe_32 ?_
        have hz1 := ci_le (f i j)
        have hm1 := c9 (a := j - i) (b := ad) (by omega) had
        refine zminN S hl.1 zwX0_99 (Nat.le_trans (by decide) hfr) (Nat.le_trans (by decide) hlo) (by omega) (by omega) (Nat.le_of_ble_eq_true rfl) dX0_fillMaybe_33 ?_
        refine zastN S hK hP hS hB (20 + n) 325 (by omega) (zk_row (by omega)) (zl_row (by omega)) (by omega) dX0_fillMaybe_36 (fun H locs hP hS => ?_)
        refine lv_iinc (v := nI (i + 1)) (lv' := [(4, .int (nI (i + 1))), (0, .ref (A 18)), (1, .ref (A (20 + n))), (2, .ref (A (20 + a))), (3, .int (nI j))]) hxx hbb dX0_fillMaybe_37 hl (k := 4) rfl (zinc1 _) (by decide) rfl (fun ls hl => ?_)
        refine lv_goto (tgt := 3) hxx hbb dX0_fillMaybe_40 (by decide) ?_
        exact ih_3 (i + 1) (zU Y1 (20 + n) (tri j + i) (nI (min ((j - i) * ad) (ci (f i j))))) (by omega) (hC.up (by omega) (by rw [ci_min3 (by omega)])) (by omega) _ _ _ hP hS (lv_sub hl [1, 2, 3, 4, 0] rfl)
  exact L_3 (_ + 1) 0 Y (by omega) CF.nil (Nat.lt_succ_self _) _ _ _ hP hS (lv_sub hl [1, 2, 3, 4, 0] rfl)

set_option maxHeartbeats 4000000 in
set_option maxRecDepth 100000 in
theorem kX0_fillLimit (l : Launch) (G : zG) (A : Nat → Nat) (Y : zY) (n a m9 j : Nat) (f : Nat → Nat → Nat) (hn : n < 24) (ha : a < 24) (hna : a ≠ n) (hm9 : m9 ≤ 99) (hj : j ≤ 24) (hf : ∀ i k, i ≤ k → k ≤ j → Y (20 + a) (tri k + i) = nI (ci (f i k)) ∧ f i k ≤ 1000000) : ZV l yX0_fillLimit cX0_fillLimit 7 1 21 G A Y [.ref (A 18), .ref (A (20 + n)), .ref (A (20 + a)), .int (nI m9), .int (nI j)] (fun Y' => CF Y Y' n j (fun i j => if f i j ≤ m9 then f i j else 1000000) 0 (j + 1)) := by
  refine ZV.enter (by decide) (Nat.le_of_ble_eq_true rfl) ?_
  intro p e s m args below meth c R Q hxx hbb S hK hfr hlo hret H ls hP hS hl
  have hB : ∀ q, zAd A q → zAd A q := fun _ h => h
  have hl : lv_has ls 7 [(0, .ref (A 18)), (1, .ref (A (20 + n))), (2, .ref (A (20 + a))), (3, .int (nI m9)), (4, .int (nI j))] := hl
  have S : CallFix p m c cX0_fillLimit 7 s args wsL_law RX0 := S
  refine lv_iconst (v := nI 0) hxx hbb dX0_fillLimit_0 (by decide) ?_
  refine lv_istore (lv' := [(5, .int (nI 0)), (0, .ref (A 18)), (1, .ref (A (20 + n))), (2, .ref (A (20 + a))), (3, .int (nI m9)), (4, .int (nI j))]) hxx hbb dX0_fillLimit_1 hl (by decide) rfl (fun ls hl => ?_)
  have L_3 : ∀ (N_3 : Nat) (i : Nat) (Y1 : zY) (hi : i ≤ j + 1) (hC : CF Y Y1 n j (fun i j => if f i j ≤ m9 then f i j else 1000000) 0 i), j + 1 - i < N_3 → ∀ (H : Heap) (locs : List Loc) (ls : Array Slot), va_P G.1 vwCl (zW G A Y1) H → va_S (zAd A) s.heap H locs → lv_has ls 7 [(0, .ref (A 18)), (1, .ref (A (20 + n))), (2, .ref (A (20 + a))), (3, .int (nI m9)), (4, .int (nI j)), (5, .int (nI i))] → W p l e R s m args below meth c H locs 0 0 Q (F0 m 3 ls []) := by
    intro N_3
    induction N_3 with
    | zero => intro i Y1 hi hC hm; exact absurd hm (Nat.not_lt_zero _)
    | succ N_3 ih_3 =>
      intro i Y1 hi hC hm_3 H locs ls hP hS hl
      refine lv_iload hxx hbb dX0_fillLimit_3 (lv_at hl 5 rfl) ?_
      refine lv_iload hxx hbb dX0_fillLimit_5 (lv_at hl 4 rfl) ?_
      refine zcmp_gt (tgt := 49) S (by omega) (by omega) dX0_fillLimit_7 (by decide) (fun c_1 => ?_) (fun c_1 => ?_)
      · skip
        exact hret _ _ _ _ _ dX0_fillLimit_49 hP hS (by rw [show j + 1 = i by omega]; exact hC)
      · skip
        refine lv_aload_n hxx hbb dX0_fillLimit_10 rfl (lv_at hl 2 rfl) ?_
        refine lv_iload hxx hbb dX0_fillLimit_11 (lv_at hl 5 rfl) ?_
        refine lv_iload hxx hbb dX0_fillLimit_13 (lv_at hl 4 rfl) ?_
        refine ZI.callS S hK hP hS hB (kX0_pieceAt l G A Y1 i j (by omega) (by omega)) zwX0_49 zdX0_pieceAt rfl ⟨Nat.le_trans (by decide) hfr, Nat.le_trans (by decide) hlo⟩ rfl (Nat.le_of_ble_eq_true rfl) hl.1 dX0_fillLimit_15 ⟨Nat.zero_le _, Nat.zero_le _⟩ (fun r_2 Y_3 H locs hq_4 hP hS => ?_)
        obtain ⟨hr9, hY9⟩ := hq_4
        subst hr9; rw [hY9] at hP
        have htr_5 := tri_lt (i := i) (j := j) (by omega) (by omega)
        refine zaldN S hK hP (20 + a) 325 (by omega) (zk_row (by omega)) (zl_row (by omega)) (by omega) (v := nI (ci (f i j))) ((congrFun (hC.1 (20 + a) (by omega)) _).trans (hf i j (by omega) (by omega)).1) dX0_fillLimit_18 ?_
        have hz1 := ci_le (f i j)
        refine lv_istore (lv' := [(6, .int (nI (ci (f i j)))), (0, .ref (A 18)), (1, .ref (A (20 + n))), (2, .ref (A (20 + a))), (3, .int (nI m9)), (4, .int (nI j)), (5, .int (nI i))]) hxx hbb dX0_fillLimit_19 hl (by decide) rfl (fun ls hl => ?_)
        refine lv_aload_n hxx hbb dX0_fillLimit_21 rfl (lv_at hl 2 rfl) ?_
        refine lv_iload hxx hbb dX0_fillLimit_22 (lv_at hl 6 rfl) ?_
        refine lv_iload hxx hbb dX0_fillLimit_24 (lv_at hl 5 rfl) ?_
        refine ZI.callS S hK hP hS hB (kX0_pieceAt l G A Y1 i j (by omega) (by omega)) zwX0_49 zdX0_pieceAt rfl ⟨Nat.le_trans (by decide) hfr, Nat.le_trans (by decide) hlo⟩ rfl (Nat.le_of_ble_eq_true rfl) hl.1 dX0_fillLimit_26 ⟨Nat.zero_le _, Nat.zero_le _⟩ (fun r_6 Y_7 H locs hq_8 hP hS => ?_)
        obtain ⟨hr9, hY9⟩ := hq_8
        subst hr9; rw [hY9] at hP
        have htr_9 := tri_lt (i := i) (j := j) (by omega) (by omega)
        refine lv_iload hxx hbb dX0_fillLimit_29 (lv_at hl 0 rfl) ?_
        refine lv_iload_n hxx hbb dX0_fillLimit_31 rfl (lv_at hl 4 rfl) ?_
        refine zcmp_gt (tgt := 40) S (by omega) (by omega) dX0_fillLimit_32 (by decide) (fun c_10 => ?_) (fun c_10 => ?_)
        · skip
          refine zldc S (v := 268435456) zxX0_48 dX0_fillLimit_40 ?_
          rw [show (268435456 : Int32) = nI 268435456 from rfl]
          refine zastN S hK hP hS hB (20 + n) 325 (by omega) (zk_row (by omega)) (zl_row (by omega)) (by omega) dX0_fillLimit_42 (fun H locs hP hS => ?_)
          refine lv_iinc (v := nI (i + 1)) (lv' := [(5, .int (nI (i + 1))), (6, .int (nI (ci (f i j)))), (0, .ref (A 18)), (1, .ref (A (20 + n))), (2, .ref (A (20 + a))), (3, .int (nI m9)), (4, .int (nI j))]) hxx hbb dX0_fillLimit_43 hl (k := 6) rfl (zinc1 _) (by decide) rfl (fun ls hl => ?_)
          refine lv_goto (tgt := 3) hxx hbb dX0_fillLimit_46 (by decide) ?_
          exact ih_3 (i + 1) (zU Y1 (20 + n) (tri j + i) (nI 268435456)) (by omega) (hC.up (by omega) (congrArg nI ((ci_lim hm9).2 (by omega)))) (by omega) _ _ _ hP hS (lv_sub hl [2, 3, 4, 5, 6, 0] rfl)
        · skip
          refine lv_iload hxx hbb dX0_fillLimit_35 (lv_at hl 0 rfl) ?_
          refine lv_goto (tgt := 42) hxx hbb dX0_fillLimit_37 (by decide) ?_
          refine zastN S hK hP hS hB (20 + n) 325 (by omega) (zk_row (by omega)) (zl_row (by omega)) (by omega) dX0_fillLimit_42 (fun H locs hP hS => ?_)
          refine lv_iinc (v := nI (i + 1)) (lv' := [(5, .int (nI (i + 1))), (6, .int (nI (ci (f i j)))), (0, .ref (A 18)), (1, .ref (A (20 + n))), (2, .ref (A (20 + a))), (3, .int (nI m9)), (4, .int (nI j))]) hxx hbb dX0_fillLimit_43 hl (k := 6) rfl (zinc1 _) (by decide) rfl (fun ls hl => ?_)
          refine lv_goto (tgt := 3) hxx hbb dX0_fillLimit_46 (by decide) ?_
          exact ih_3 (i + 1) (zU Y1 (20 + n) (tri j + i) (nI (ci (f i j)))) (by omega) (hC.up (by omega) (congrArg nI ((ci_lim hm9).1 (by omega)))) (by omega) _ _ _ hP hS (lv_sub hl [2, 3, 4, 5, 6, 0] rfl)
  exact L_3 (_ + 1) 0 Y (by omega) CF.nil (Nat.lt_succ_self _) _ _ _ hP hS (lv_sub hl [1, 2, 3, 4, 5, 0] rfl)

set_option maxHeartbeats 4000000 in
set_option maxRecDepth 100000 in
theorem kX0_fillChains (l : Launch) (G : zG) (A : Nat → Nat) (Y : zY) (a j : Nat) (x : Nat → Nat → Nat) (ha : a < 24) (hj : j ≤ 24) (hx : ∀ i k, i ≤ k → k ≤ j → Y (20 + a) (tri k + i) = nI (ci (x i k)) ∧ x i k ≤ 1000000) (hsum : ∀ i k, i < k → k < j → x i k < 1000000 → cPl x k j < 1000000 → x i k + cPl x k j < 1000000) : ZV l yX0_fillChains cX0_fillChains 6 1 21 G A Y [.ref (A 18), .ref (A (20 + a)), .int (nI j)] (fun Y' => (∀ p, p ≠ 44 → Y' p = Y p) ∧ ∀ i, i ≤ j → Y' 44 i = nI (ci (cPl x i j))) := by
  refine ZV.enter (by decide) (Nat.le_of_ble_eq_true rfl) ?_
  intro p e s m args below meth c R Q hxx hbb S hK hfr hlo hret H ls hP hS hl
  have hB : ∀ q, zAd A q → zAd A q := fun _ h => h
  have hl : lv_has ls 6 [(0, .ref (A 18)), (1, .ref (A (20 + a))), (2, .int (nI j))] := hl
  have S : CallFix p m c cX0_fillChains 6 s args wsL_law RX0 := S
  refine lv_iload_n hxx hbb dX0_fillChains_0 rfl (lv_at hl 2 rfl) ?_
  refine lv_istore_n (lv' := [(3, .int (nI j)), (0, .ref (A 18)), (1, .ref (A (20 + a))), (2, .int (nI j))]) hxx hbb dX0_fillChains_1 rfl hl (by decide) rfl (fun ls hl => ?_)
  have L_2 : ∀ (N_2 : Nat) (q : Nat) (t : Int32) (Y1 : zY) (hq : q ≤ j + 1) (ht : t = nI q - nI 1) (hC : ∀ p, p ≠ 44 → Y1 p = Y p) (hch : ∀ i, q ≤ i → i ≤ j → Y1 44 i = nI (ci (cPl x i j))), q < N_2 → ∀ (H : Heap) (locs : List Loc) (ls : Array Slot), va_P G.1 vwCl (zW G A Y1) H → va_S (zAd A) s.heap H locs → lv_has ls 6 [(0, .ref (A 18)), (1, .ref (A (20 + a))), (2, .int (nI j)), (3, .int t)] → W p l e R s m args below meth c H locs 0 0 Q (F0 m 2 ls []) := by
    intro N_2
    induction N_2 with
    | zero => intro q t Y1 hq ht hC hch hm; exact absurd hm (Nat.not_lt_zero _)
    | succ N_2 ih_2 =>
      intro q t Y1 hq ht hC hch hm_2 H locs ls hP hS hl
      refine lv_iload_n hxx hbb dX0_fillChains_2 rfl (lv_at hl 3 rfl) ?_
      refine lv_if_lt (tgt := 69) hxx hbb dX0_fillChains_3 (by decide) (fun c_1 => ?_) (fun c_1 => ?_)
      · skip
        have hq0 := z_q0 (q := q) (by omega) (by rw [← ht]; exact c_1)
        exact hret _ _ _ _ _ dX0_fillChains_69 hP hS (⟨hC, fun i h => hch i (by omega) h⟩)
      · skip
        have hq1 : 1 ≤ q := z_qpos (by rw [← ht]; exact c_1)
        have ht9 := ht.trans (pk_sub hq1)
        subst ht9
        refine lv_aload_n hxx hbb dX0_fillChains_6 rfl (lv_at hl 1 rfl) ?_
        refine lv_iload_n hxx hbb dX0_fillChains_7 rfl (lv_at hl 3 rfl) ?_
        refine lv_iload_n hxx hbb dX0_fillChains_8 rfl (lv_at hl 2 rfl) ?_
        refine ZI.callS S hK hP hS hB (kX0_pieceAt l G A Y1 (q - 1) j (by omega) (by omega)) zwX0_49 zdX0_pieceAt rfl ⟨Nat.le_trans (by decide) hfr, Nat.le_trans (by decide) hlo⟩ rfl (Nat.le_of_ble_eq_true rfl) hl.1 dX0_fillChains_9 ⟨Nat.zero_le _, Nat.zero_le _⟩ (fun r_2 Y_3 H locs hq_4 hP hS => ?_)
        obtain ⟨hr9, hY9⟩ := hq_4
        subst hr9; rw [hY9] at hP
        have htr_5 := tri_lt (i := (q - 1)) (j := j) (by omega) (by omega)
        refine zaldN S hK hP (20 + a) 325 (by omega) (zk_row (by omega)) (zl_row (by omega)) (by omega) (v := nI (ci (x (q - 1) j))) ((congrFun (hC (20 + a) (by omega)) _).trans (hx (q - 1) j (by omega) (by omega)).1) dX0_fillChains_12 ?_
        refine lv_istore (lv' := [(4, .int (nI (ci (x (q - 1) j)))), (0, .ref (A 18)), (1, .ref (A (20 + a))), (2, .int (nI j)), (3, .int (nI (q - 1)))]) hxx hbb dX0_fillChains_13 hl (by decide) rfl (fun ls hl => ?_)
        refine lv_iload_n hxx hbb dX0_fillChains_15 rfl (lv_at hl 4 rfl) ?_
        refine lv_iconst (v := nI 1) hxx hbb dX0_fillChains_16 (by decide) ?_
        refine zaddN S dX0_fillChains_17 ?_
        refine lv_istore (lv' := [(5, .int (nI (q - 1 + 1))), (4, .int (nI (ci (x (q - 1) j)))), (0, .ref (A 18)), (1, .ref (A (20 + a))), (2, .int (nI j)), (3, .int (nI (q - 1)))]) hxx hbb dX0_fillChains_18 hl (by decide) rfl (fun ls hl => ?_)
        have L_20 : ∀ (N_20 : Nat) (k u : Nat) (hk : k ≤ j - (q - 1) - 1) (hu : u = ci (cRv x (fun k => cPl x k j) (q - 1) j k)), j - k < N_20 → ∀ (H : Heap) (locs : List Loc) (ls : Array Slot), va_P G.1 vwCl (zW G A Y1) H → va_S (zAd A) s.heap H locs → lv_has ls 6 [(0, .ref (A 18)), (1, .ref (A (20 + a))), (2, .int (nI j)), (3, .int (nI (q - 1))), (4, .int (nI u)), (5, .int (nI (q - 1 + 1 + k)))] → W p l e R s m args below meth c H locs 0 0 Q (F0 m 20 ls []) := by
          intro N_20
          induction N_20 with
          | zero => intro k u hk hu hm; exact absurd hm (Nat.not_lt_zero _)
          | succ N_20 ih_20 =>
            intro k u hk hu hm_20 H locs ls hP hS hl
            refine lv_iload hxx hbb dX0_fillChains_20 (lv_at hl 5 rfl) ?_
            refine lv_iload_n hxx hbb dX0_fillChains_22 rfl (lv_at hl 2 rfl) ?_
            refine zcmp_ge (tgt := 55) S (by omega) (by omega) dX0_fillChains_23 (by decide) (fun c_6 => ?_) (fun c_6 => ?_)
            · skip
              refine lv_aload_n hxx hbb dX0_fillChains_55 rfl (lv_at hl 0 rfl) ?_
              refine zgX0_16 S hK hP 18 (by decide) zk_18 dX0_fillChains_56 ?_
              refine lv_iload_n hxx hbb dX0_fillChains_59 rfl (lv_at hl 3 rfl) ?_
              refine lv_iload hxx hbb dX0_fillChains_60 (lv_at hl 4 rfl) ?_
              refine zastN S hK hP hS hB 44 25 (by decide) zk_44 zl_44 (by omega) dX0_fillChains_62 (fun H locs hP hS => ?_)
              refine lv_iinc (v := nI (q - 1) - nI 1) (lv' := [(3, .int (nI (q - 1) - nI 1)), (0, .ref (A 18)), (1, .ref (A (20 + a))), (2, .int (nI j)), (4, .int (nI u)), (5, .int (nI (q - 1 + 1 + k)))]) hxx hbb dX0_fillChains_63 hl (k := 3) rfl (zdecR _) (by decide) rfl (fun ls hl => ?_)
              refine lv_goto (tgt := 2) hxx hbb dX0_fillChains_66 (by decide) ?_
              exact ih_2 (q - 1) (nI (q - 1) - nI 1) (zU Y1 44 (q - 1) (nI u)) (by omega) rfl (fun p hp => (zU_row hp).trans (hC p hp)) (fun i h1 h2 => (Decidable.em (i = q - 1)).elim (fun e => by rw [e, zU_eq, hu, cPl_right (fun a b h3 h4 => (hx a b h3 h4).2) (by omega), show k = j - (q - 1) - 1 by omega]) (fun e => (zU_nj e).trans (hch i (by omega) h2))) (by omega) _ _ _ hP hS (lv_sub hl [1, 2, 3, 0] rfl)
            · skip
              refine lv_iload hxx hbb dX0_fillChains_26 (lv_at hl 4 rfl) ?_
              refine lv_aload_n hxx hbb dX0_fillChains_28 rfl (lv_at hl 1 rfl) ?_
              refine lv_iload_n hxx hbb dX0_fillChains_29 rfl (lv_at hl 3 rfl) ?_
              refine lv_iload hxx hbb dX0_fillChains_30 (lv_at hl 5 rfl) ?_
              refine ZI.callS S hK hP hS hB (kX0_pieceAt l G A Y1 (q - 1) (q - 1 + 1 + k) (by omega) (by omega)) zwX0_49 zdX0_pieceAt rfl ⟨Nat.le_trans (by decide) hfr, Nat.le_trans (by decide) hlo⟩ rfl (Nat.le_of_ble_eq_true rfl) hl.1 dX0_fillChains_32 ⟨Nat.zero_le _, Nat.zero_le _⟩ (fun r_7 Y_8 H locs hq_9 hP hS => ?_)
              obtain ⟨hr9, hY9⟩ := hq_9
              subst hr9; rw [hY9] at hP
              have htr_10 := tri_lt (i := (q - 1)) (j := (q - 1 + 1 + k)) (by omega) (by omega)
              refine zaldN S hK hP (20 + a) 325 (by omega) (zk_row (by omega)) (zl_row (by omega)) (by omega) (v := nI (ci (x (q - 1) (q - 1 + 1 + k)))) ((congrFun (hC (20 + a) (by omega)) _).trans (hx (q - 1) (q - 1 + 1 + k) (by omega) (by omega)).1) dX0_fillChains_35 ?_
              refine lv_aload_n hxx hbb dX0_fillChains_36 rfl (lv_at hl 0 rfl) ?_
              refine zgX0_16 S hK hP 18 (by decide) zk_18 dX0_fillChains_37 ?_
              refine lv_iload hxx hbb dX0_fillChains_40 (lv_at hl 5 rfl) ?_
              refine zaldN S hK hP 44 25 (by decide) zk_44 zl_44 (by omega) (v := nI (ci (cPl x (q - 1 + 1 + k) j))) (hch (q - 1 + 1 + k) (by omega) (by omega)) dX0_fillChains_42 ?_
              refine zaddN S dX0_fillChains_43 ?_
              have hz1 := ci_le (x (q - 1) (q - 1 + 1 + k))
              have hz2 := ci_le (cPl x (q - 1 + 1 + k) j)
              have hz3 := ci_le (cRv x (fun k => cPl x k j) (q - 1) j k)
              refine zminN S hl.1 zwX0_99 (Nat.le_trans (by decide) hfr) (Nat.le_trans (by decide) hlo) (by omega) (by omega) (Nat.le_of_ble_eq_true rfl) dX0_fillChains_44 ?_
              refine lv_istore (lv' := [(4, .int (nI (min u (ci (x (q - 1) (q - 1 + 1 + k)) + (ci (cPl x (q - 1 + 1 + k) j)))))), (0, .ref (A 18)), (1, .ref (A (20 + a))), (2, .int (nI j)), (3, .int (nI (q - 1))), (5, .int (nI (q - 1 + 1 + k)))]) hxx hbb dX0_fillChains_47 hl (by decide) rfl (fun ls hl => ?_)
              refine lv_iinc (v := nI (q - 1 + 1 + k + 1)) (lv' := [(5, .int (nI (q - 1 + 1 + k + 1))), (4, .int (nI (min u (ci (x (q - 1) (q - 1 + 1 + k)) + (ci (cPl x (q - 1 + 1 + k) j)))))), (0, .ref (A 18)), (1, .ref (A (20 + a))), (2, .int (nI j)), (3, .int (nI (q - 1)))]) hxx hbb dX0_fillChains_49 hl (k := 5) rfl (zinc1 _) (by decide) rfl (fun ls hl => ?_)
              refine lv_goto (tgt := 20) hxx hbb dX0_fillChains_52 (by decide) ?_
              exact ih_20 (k + 1) (min u (ci (x (q - 1) (q - 1 + 1 + k)) + (ci (cPl x (q - 1 + 1 + k) j)))) (by omega) (by rw [hu, ci_min (cRv_le (hx _ _ (by omega) (by omega)).2 _) (hsum (q - 1) (q - 1 + 1 + k) (by omega) (by omega))]; rfl) (by omega) _ _ _ hP hS (lv_sub hl [2, 3, 4, 5, 1, 0] rfl)
        exact L_20 (_ + 1) 0 (ci (x (q - 1) j)) (by omega) rfl (Nat.lt_succ_self _) _ _ _ hP hS (lv_sub hl [2, 3, 4, 5, 1, 0] rfl)
  exact L_2 (_ + 1) (j + 1) (nI j) Y (by omega) (by rw [pk_sub (by omega), Nat.add_sub_cancel]) (fun _ _ => rfl) (fun i h1 h2 => absurd h1 (by omega)) (Nat.lt_succ_self _) _ _ _ hP hS (lv_sub hl [1, 2, 3, 0] rfl)

set_option maxHeartbeats 4000000 in
set_option maxRecDepth 100000 in
theorem kX0_fillRepeated (l : Launch) (G : zG) (A : Nat → Nat) (Y : zY) (n bz j ad : Nat) (P : Nat → Nat → Nat) (hn : n < 24) (hbz : bz ≤ 1) (hj : j ≤ 24) (had : ad ≤ 9) (h3 : Y 18 3 = nI ad) (hch : ∀ i, i ≤ j → Y 44 i = nI (ci (P i j))) : ZV l yX0_fillRepeated cX0_fillRepeated 6 1 21 G A Y [.ref (A 18), .ref (A (20 + n)), .int (nI bz), .int (nI j)] (fun Y' => CF Y Y' n j (fun i j => if bz ≠ 0 then (if P i j < (j - i) * ad then P i j else (j - i) * ad) else P i j) 0 (j + 1)) := by
  refine ZV.enter (by decide) (Nat.le_of_ble_eq_true rfl) ?_
  intro p e s m args below meth c R Q hxx hbb S hK hfr hlo hret H ls hP hS hl
  have hB : ∀ q, zAd A q → zAd A q := fun _ h => h
  have hl : lv_has ls 6 [(0, .ref (A 18)), (1, .ref (A (20 + n))), (2, .int (nI bz)), (3, .int (nI j))] := hl
  have S : CallFix p m c cX0_fillRepeated 6 s args wsL_law RX0 := S
  refine lv_iconst (v := nI 0) hxx hbb dX0_fillRepeated_0 (by decide) ?_
  refine lv_istore (lv' := [(4, .int (nI 0)), (0, .ref (A 18)), (1, .ref (A (20 + n))), (2, .int (nI bz)), (3, .int (nI j))]) hxx hbb dX0_fillRepeated_1 hl (by decide) rfl (fun ls hl => ?_)
  have L_3 : ∀ (N_3 : Nat) (i : Nat) (Y1 : zY) (hi : i ≤ j + 1) (hC : CF Y Y1 n j (fun i j => if bz ≠ 0 then (if P i j < (j - i) * ad then P i j else (j - i) * ad) else P i j) 0 i), j + 1 - i < N_3 → ∀ (H : Heap) (locs : List Loc) (ls : Array Slot), va_P G.1 vwCl (zW G A Y1) H → va_S (zAd A) s.heap H locs → lv_has ls 6 [(0, .ref (A 18)), (1, .ref (A (20 + n))), (2, .int (nI bz)), (3, .int (nI j)), (4, .int (nI i))] → W p l e R s m args below meth c H locs 0 0 Q (F0 m 3 ls []) := by
    intro N_3
    induction N_3 with
    | zero => intro i Y1 hi hC hm; exact absurd hm (Nat.not_lt_zero _)
    | succ N_3 ih_3 =>
      intro i Y1 hi hC hm_3 H locs ls hP hS hl
      refine lv_iload hxx hbb dX0_fillRepeated_3 (lv_at hl 4 rfl) ?_
      refine lv_iload_n hxx hbb dX0_fillRepeated_5 rfl (lv_at hl 3 rfl) ?_
      refine zcmp_gt (tgt := 55) S (by omega) (by omega) dX0_fillRepeated_6 (by decide) (fun c_1 => ?_) (fun c_1 => ?_)
      · skip
        exact hret _ _ _ _ _ dX0_fillRepeated_55 hP hS (by rw [show j + 1 = i by omega]; exact hC)
      · skip
        refine lv_iload_n hxx hbb dX0_fillRepeated_9 rfl (lv_at hl 2 rfl) ?_
        refine zif_eq (tgt := 25) S (by omega) dX0_fillRepeated_10 (by decide) (fun c_2 => ?_) (fun c_2 => ?_)
        · skip
          refine zldc S (v := 268435456) zxX0_48 dX0_fillRepeated_25 ?_
          rw [show (268435456 : Int32) = nI 268435456 from rfl]
          refine lv_istore (lv' := [(5, .int (nI 268435456)), (0, .ref (A 18)), (1, .ref (A (20 + n))), (2, .int (nI bz)), (3, .int (nI j)), (4, .int (nI i))]) hxx hbb dX0_fillRepeated_27 hl (by decide) rfl (fun ls hl => ?_)
          refine lv_aload_n hxx hbb dX0_fillRepeated_29 rfl (lv_at hl 2 rfl) ?_
          refine lv_iload hxx hbb dX0_fillRepeated_30 (lv_at hl 5 rfl) ?_
          refine lv_iload_n hxx hbb dX0_fillRepeated_32 rfl (lv_at hl 4 rfl) ?_
          refine ZI.callS S hK hP hS hB (kX0_pieceAt l G A Y1 i j (by omega) (by omega)) zwX0_49 zdX0_pieceAt rfl ⟨Nat.le_trans (by decide) hfr, Nat.le_trans (by decide) hlo⟩ rfl (Nat.le_of_ble_eq_true rfl) hl.1 dX0_fillRepeated_33 ⟨Nat.zero_le _, Nat.zero_le _⟩ (fun r_3 Y_4 H locs hq_5 hP hS => ?_)
          obtain ⟨hr9, hY9⟩ := hq_5
          subst hr9; rw [hY9] at hP
          have htr_6 := tri_lt (i := i) (j := j) (by omega) (by omega)
          refine lv_iload hxx hbb dX0_fillRepeated_36 (lv_at hl 0 rfl) ?_
          refine lv_aload_n hxx hbb dX0_fillRepeated_38 rfl (lv_at hl 1 rfl) ?_
          refine zgX0_16 S hK hP 18 (by decide) zk_18 dX0_fillRepeated_39 ?_
          refine lv_iload hxx hbb dX0_fillRepeated_42 (lv_at hl 5 rfl) ?_
          refine zaldN S hK hP 44 25 (by decide) zk_44 zl_44 (by omega) (v := nI (ci (P i j))) ((congrFun (hC.1 44 (by omega)) _).trans (hch i (by omega))) dX0_fillRepeated_44 ?_
          have hz1 := ci_le (P i j)
          have hm1 := c9 (a := j - i) (b := ad) (by omega) had
          refine zminN S hl.1 zwX0_99 (Nat.le_trans (by decide) hfr) (Nat.le_trans (by decide) hlo) (by omega) (by omega) (Nat.le_of_ble_eq_true rfl) dX0_fillRepeated_45 ?_
          refine zastN S hK hP hS hB (20 + n) 325 (by omega) (zk_row (by omega)) (zl_row (by omega)) (by omega) dX0_fillRepeated_48 (fun H locs hP hS => ?_)
          refine lv_iinc (v := nI (i + 1)) (lv' := [(4, .int (nI (i + 1))), (5, .int (nI 268435456)), (0, .ref (A 18)), (1, .ref (A (20 + n))), (2, .int (nI bz)), (3, .int (nI j))]) hxx hbb dX0_fillRepeated_49 hl (k := 5) rfl (zinc1 _) (by decide) rfl (fun ls hl => ?_)
          refine lv_goto (tgt := 3) hxx hbb dX0_fillRepeated_52 (by decide) ?_
          exact ih_3 (i + 1) (zU Y1 (20 + n) (tri j + i) (nI (min 268435456 (ci (P i j))))) (by omega) (hC.up (by omega) (by rw [if_neg (by omega)]; exact congrArg nI (by have := ci_le (P i j); omega))) (by omega) _ _ _ hP hS (lv_sub hl [2, 3, 4, 5, 0] rfl)
        · skip
          refine lv_iload_n hxx hbb dX0_fillRepeated_13 rfl (lv_at hl 3 rfl) ?_
          refine lv_iload hxx hbb dX0_fillRepeated_14 (lv_at hl 4 rfl) ?_
          refine zsubN S (by omega) dX0_fillRepeated_16 ?_
          refine lv_aload_n hxx hbb dX0_fillRepeated_17 rfl (lv_at hl 0 rfl) ?_
          refine zgX0_24 S hK hP 18 (by decide) zk_18 (v := nI ad) ((congrFun (hC.1 18 (by omega)) 3).trans h3) dX0_fillRepeated_18 ?_
          refine zmulN S dX0_fillRepeated_21 ?_
          refine lv_goto (tgt := 27) hxx hbb dX0_fillRepeated_22 (by decide) ?_
          refine lv_istore (lv' := [(5, .int (nI ((j - i) * ad))), (0, .ref (A 18)), (1, .ref (A (20 + n))), (2, .int (nI bz)), (3, .int (nI j)), (4, .int (nI i))]) hxx hbb dX0_fillRepeated_27 hl (by decide) rfl (fun ls hl => ?_)
          refine lv_aload_n hxx hbb dX0_fillRepeated_29 rfl (lv_at hl 2 rfl) ?_
          refine lv_iload hxx hbb dX0_fillRepeated_30 (lv_at hl 5 rfl) ?_
          refine lv_iload_n hxx hbb dX0_fillRepeated_32 rfl (lv_at hl 4 rfl) ?_
          refine ZI.callS S hK hP hS hB (kX0_pieceAt l G A Y1 i j (by omega) (by omega)) zwX0_49 zdX0_pieceAt rfl ⟨Nat.le_trans (by decide) hfr, Nat.le_trans (by decide) hlo⟩ rfl (Nat.le_of_ble_eq_true rfl) hl.1 dX0_fillRepeated_33 ⟨Nat.zero_le _, Nat.zero_le _⟩ (fun r_7 Y_8 H locs hq_9 hP hS => ?_)
          obtain ⟨hr9, hY9⟩ := hq_9
          subst hr9; rw [hY9] at hP
          have htr_10 := tri_lt (i := i) (j := j) (by omega) (by omega)
          refine lv_iload hxx hbb dX0_fillRepeated_36 (lv_at hl 0 rfl) ?_
          refine lv_aload_n hxx hbb dX0_fillRepeated_38 rfl (lv_at hl 1 rfl) ?_
          refine zgX0_16 S hK hP 18 (by decide) zk_18 dX0_fillRepeated_39 ?_
          refine lv_iload hxx hbb dX0_fillRepeated_42 (lv_at hl 5 rfl) ?_
          refine zaldN S hK hP 44 25 (by decide) zk_44 zl_44 (by omega) (v := nI (ci (P i j))) ((congrFun (hC.1 44 (by omega)) _).trans (hch i (by omega))) dX0_fillRepeated_44 ?_
          have hz1 := ci_le (P i j)
          have hm1 := c9 (a := j - i) (b := ad) (by omega) had
          refine zminN S hl.1 zwX0_99 (Nat.le_trans (by decide) hfr) (Nat.le_trans (by decide) hlo) (by omega) (by omega) (Nat.le_of_ble_eq_true rfl) dX0_fillRepeated_45 ?_
          refine zastN S hK hP hS hB (20 + n) 325 (by omega) (zk_row (by omega)) (zl_row (by omega)) (by omega) dX0_fillRepeated_48 (fun H locs hP hS => ?_)
          refine lv_iinc (v := nI (i + 1)) (lv' := [(4, .int (nI (i + 1))), (5, .int (nI ((j - i) * ad))), (0, .ref (A 18)), (1, .ref (A (20 + n))), (2, .int (nI bz)), (3, .int (nI j))]) hxx hbb dX0_fillRepeated_49 hl (k := 5) rfl (zinc1 _) (by decide) rfl (fun ls hl => ?_)
          refine lv_goto (tgt := 3) hxx hbb dX0_fillRepeated_52 (by decide) ?_
          exact ih_3 (i + 1) (zU Y1 (20 + n) (tri j + i) (nI (min ((j - i) * ad) (ci (P i j))))) (by omega) (hC.up (by omega) (by rw [if_pos (by omega), ci_min3 (by omega)])) (by omega) _ _ _ hP hS (lv_sub hl [2, 3, 4, 5, 0] rfl)
  exact L_3 (_ + 1) 0 Y (by omega) CF.nil (Nat.lt_succ_self _) _ _ _ hP hS (lv_sub hl [1, 2, 3, 4, 0] rfl)
