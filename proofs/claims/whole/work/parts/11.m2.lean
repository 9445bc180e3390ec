/-! ===== costs, as numbers; 1000000 stands for INFINITE ===== -/
/-- whether one of the n letters from i on fits: 1 or 0 -/
def cFit (st : Nat) (tx : Nat → Nat) (i : Nat) : Nat → Nat
  | 0 => 0
  | n + 1 => if cFit st tx i n ≠ 0 then 1 else if st / 2 ^ (tx (i + n) - 97) % 2 = 1 then 1 else 0
def cSet (st : Nat) (tx : Nat → Nat) (ad mi wr i j : Nat) : Nat :=
  if j - i = 0 then mi + (j - i) * ad
  else if mi + (j - i) * ad < (j - i - 1) * ad + (if cFit st tx i (j - i) = 0 then wr else 0) then mi + (j - i) * ad
  else (j - i - 1) * ad + (if cFit st tx i (j - i) = 0 then wr else 0)
/-- the least of the first n cuts of a row of two -/
def cRow (f g : Nat → Nat → Nat) (i j : Nat) : Nat → Nat
  | 0 => 1000000
  | n + 1 => if cAdd (f i (i + n)) (g (i + n) j) < cRow f g i j n then cAdd (f i (i + n)) (g (i + n) j) else cRow f g i j n
/-- the least over the last piece's beginnings i + 1 .. i + n -/
def cPlv (f x : Nat → Nat → Nat) (i j : Nat) : Nat → Nat
  | 0 => x i j
  | n + 1 => if cAdd (f i (i + 1 + n)) (x (i + 1 + n) j) < cPlv f x i j n then cAdd (f i (i + 1 + n)) (x (i + 1 + n) j) else cPlv f x i j n
/-- the pieces of fewer than m letters, one or more of x -/
def cPlt (x : Nat → Nat → Nat) : Nat → Nat → Nat → Nat
  | 0 => fun _ _ => 0
  | m + 1 => fun i j => if j - i = m then cPlv (cPlt x m) x i j (m - 1) else cPlt x m i j
def cPl (x : Nat → Nat → Nat) (i j : Nat) : Nat := cPlt x (j - i + 1) i j
def cNode (kd lf rt tx : Nat → Nat) (ad mi wr : Nat) (T : Nat → Nat → Nat → Nat) (n i j : Nat) : Nat :=
  if kd n = 0 then cSet (lf n) tx ad mi wr i j
  else if kd n = 1 then cRow (T (lf n)) (T (rt n)) i j (j - i + 1)
  else if kd n = 2 then (if T (lf n) i j < T (rt n) i j then T (lf n) i j else T (rt n) i j)
  else if kd n = 5 then (if T (lf n) i j < (j - i) * ad then T (lf n) i j else (j - i) * ad)
  else if kd n = 6 then (if T (lf n) i j ≤ rt n then T (lf n) i j else 1000000)
  else cPl (T (lf n)) i j
/-- a STAR's cost out of its chains' -/
def cStar (kd : Nat → Nat) (ad : Nat) (v n i j : Nat) : Nat := if kd n = 3 then (if v < (j - i) * ad then v else (j - i) * ad) else v
/-- the table of the nodes before n -/
def cTab (kd lf rt tx : Nat → Nat) (ad mi wr : Nat) : Nat → Nat → Nat → Nat → Nat
  | 0 => fun _ _ _ => 0
  | n + 1 => fun k i j => if k = n then cStar kd ad (cNode kd lf rt tx ad mi wr (cTab kd lf rt tx ad mi wr n) n i j) n i j else cTab kd lf rt tx ad mi wr n k i j
def cCost (kd lf rt tx : Nat → Nat) (ad mi wr n i j : Nat) : Nat := cTab kd lf rt tx ad mi wr (n + 1) n i j
theorem cTab_stable {kd lf rt tx : Nat → Nat} {ad mi wr : Nat} {n k i j : Nat} (h : k < n) : cTab kd lf rt tx ad mi wr n k i j = cCost kd lf rt tx ad mi wr k i j := by
  induction n with
  | zero => omega
  | succ n ih =>
    by_cases e : k = n
    · subst e; rfl
    · show (if k = n then _ else _) = _
      rw [if_neg e]
      exact ih (by omega)
theorem cPlt_stable {x : Nat → Nat → Nat} {m i j : Nat} (h : j - i < m) : cPlt x m i j = cPl x i j := by
  induction m with
  | zero => omega
  | succ m ih =>
    by_cases e : j - i = m
    · subst e; rfl
    · show (if j - i = m then _ else _) = _
      rw [if_neg e]
      exact ih (by omega)
theorem cPlv_congr {f g x : Nat → Nat → Nat} {i j n : Nat} (h : ∀ k, k < n → f i (i + 1 + k) = g i (i + 1 + k)) : cPlv f x i j n = cPlv g x i j n := by
  induction n with
  | zero => rfl
  | succ n ih =>
    show (if _ then _ else _) = (if _ then _ else _)
    rw [ih (fun k hk => h k (by omega)), h n (by omega)]
theorem cPl_eq {x : Nat → Nat → Nat} {i j : Nat} : cPl x i j = cPlv (cPl x) x i j (j - i - 1) := by
  show (if j - i = j - i then _ else _) = _
  rw [if_pos rfl]
  exact cPlv_congr (fun k hk => cPlt_stable (by omega))
theorem cNode_congr {kd lf rt tx : Nat → Nat} {ad mi wr : Nat} {T U : Nat → Nat → Nat → Nat} {n i j : Nat} (hl : kd n ≠ 0 → T (lf n) = U (lf n)) (hr : kd n = 1 ∨ kd n = 2 → T (rt n) = U (rt n)) : cNode kd lf rt tx ad mi wr T n i j = cNode kd lf rt tx ad mi wr U n i j := by
  unfold cNode
  by_cases h0 : kd n = 0
  · rw [if_pos h0, if_pos h0]
  rw [if_neg h0, if_neg h0, hl h0]
  by_cases h1 : kd n = 1
  · rw [if_pos h1, if_pos h1, hr (Or.inl h1)]
  rw [if_neg h1, if_neg h1]
  by_cases h2 : kd n = 2
  · rw [if_pos h2, if_pos h2, hr (Or.inr h2)]
  rw [if_neg h2, if_neg h2]
/-- what a pattern's rows are: operands before the node -/
def wfN (nn : Nat) (kd lf rt : Nat → Nat) : Prop := nn ≤ 24 ∧ ∀ n, n < nn → kd n ≤ 6 ∧ rt n < 2 ^ 26 ∧ (kd n = 0 → lf n < 2 ^ 26) ∧ (kd n ≠ 0 → lf n < n) ∧ (kd n = 1 ∨ kd n = 2 → rt n < n) ∧ (kd n = 6 → rt n ≤ 99)
theorem cCost_eq {kd lf rt tx : Nat → Nat} {ad mi wr : Nat} {n i j : Nat} (hl : kd n ≠ 0 → lf n < n) (hr : kd n = 1 ∨ kd n = 2 → rt n < n) : cCost kd lf rt tx ad mi wr n i j = cStar kd ad (cNode kd lf rt tx ad mi wr (cCost kd lf rt tx ad mi wr) n i j) n i j := by
  show (if n = n then _ else _) = _
  rw [if_pos rfl]
  congr 1
  exact cNode_congr (fun h => funext fun a => funext fun b => cTab_stable (hl h)) (fun h => funext fun a => funext fun b => cTab_stable (hr h))
theorem zs31 : ∀ k, k < 31 → ((nI k).toBitVec.smod 32).toNat = k := by decide +kernel
theorem zbit {a k : Nat} (ha : a < 2 ^ 31) (hk : k < 31) : ((nI a) >>> ((nI k) &&& 31)) &&& nI 1 = nI (a / 2 ^ k % 2) := by
  have e1 : (nI k) &&& 31 = nI k := by
    have h := pk_andN (n := k) (by omega) (m := 31) 5 (by decide)
    rw [h, Nat.mod_eq_of_lt (by omega)]
  rw [e1, pk_shrN ha (nI k) k (zs31 k hk)]
  have h2 := pk_andN (n := a / 2 ^ k) (Nat.lt_of_le_of_lt (Nat.div_le_self _ _) (by omega)) (m := nI 1) 1 (by decide)
  rw [h2]
/-- what the model holds of pattern, text and weights -/
def MC (Y : zY) (nn : Nat) (kd lf rt tx : Nat → Nat) (len ad mi wr : Nat) : Prop :=
  wfN nn kd lf rt ∧ len ≤ 24 ∧ ad ≤ 9 ∧ mi ≤ 9 ∧ wr ≤ 9 ∧ (∀ q, q < len → 97 ≤ tx q ∧ tx q ≤ 122) ∧ Y 102 2 = nI nn ∧ Y 102 19 = nI len ∧ Y 102 15 = nI ad ∧ Y 102 16 = nI mi ∧ Y 102 17 = nI wr ∧ (∀ q, q < len → Y 112 q = nI (tx q)) ∧ (∀ n, n < nn → Y 104 n = nI (kd n) ∧ Y 105 n = nI (lf n) ∧ Y 106 n = nI (rt n))
theorem cAdd_le {a b : Nat} (ha : a ≤ 1000000) (hb : b ≤ 1000000) : cAdd a b ≤ 2000000 := by unfold cAdd; split <;> omega
theorem cFit_le (st : Nat) (tx : Nat → Nat) (i : Nat) : ∀ n, cFit st tx i n ≤ 1
  | 0 => Nat.zero_le _
  | n + 1 => by simp only [cFit]; split <;> (try split) <;> omega
theorem c9 {a b : Nat} (ha : a ≤ 24) (hb : b ≤ 9) : a * b ≤ 216 := Nat.mul_le_mul ha hb
set_option maxHeartbeats 4000000 in
set_option maxRecDepth 100000 in
theorem kX6_ofSet (l : Launch) (G : zG) (A : Nat → Nat) (Y : zY) (st i j : Nat) (nn : Nat) (kd lf rt tx : Nat → Nat) (len ad mi wr : Nat) (hMC : MC Y nn kd lf rt tx len ad mi wr) (hst : st < 2 ^ 26) (hij : i ≤ j) (hj : j ≤ len) : ZI l yX6_ofSet cX6_ofSet 8 (.int) 0 0 G A Y [.ref (A 102), .int (nI st), .int (nI i), .int (nI j)] (fun r Y' => r = nI (cSet st tx ad mi wr i j) ∧ Y' = Y) := by
  refine ZI.enter (by decide) (Nat.le_of_ble_eq_true rfl) ?_
  intro p e s m args below meth c R Q hxx hbb S hK hfr hlo hret H ls hP hS hl
  have hB : ∀ q, zAd A q → zAd A q := fun _ h => h
  have hl : lv_has ls 8 [(0, .ref (A 102)), (1, .int (nI st)), (2, .int (nI i)), (3, .int (nI j))] := hl
  have S : CallFix p m c cX6_ofSet 8 s args wsL_law RX6 := S
  obtain ⟨hwf, hlen, had, hmi, hwr, htx, hY2, hY19, hY15, hY16, hY17, hYt, hYn⟩ := hMC
  have hm1 := c9 (a := j - i) (by omega) had
  have hm2 := c9 (a := j - i - 1) (by omega) had
  refine lv_iload_n hxx hbb dX6_ofSet_0 rfl (lv_at hl 3 rfl) ?_
  refine lv_iload_n hxx hbb dX6_ofSet_1 rfl (lv_at hl 2 rfl) ?_
  refine zsubN S (by omega) dX6_ofSet_2 ?_
  refine lv_istore (lv' := [(4, .int (nI (j - i))), (0, .ref (A 102)), (1, .int (nI st)), (2, .int (nI i)), (3, .int (nI j))]) hxx hbb dX6_ofSet_3 hl (by decide) rfl (fun ls hl => ?_)
  refine lv_aload_n hxx hbb dX6_ofSet_5 rfl (lv_at hl 1 rfl) ?_
  refine zgX6_41 S hK hP 102 (by decide) zk_102 (v := nI mi) (hY16) dX6_ofSet_6 ?_
  refine lv_iload hxx hbb dX6_ofSet_9 (lv_at hl 0 rfl) ?_
  refine lv_aload_n hxx hbb dX6_ofSet_11 rfl (lv_at hl 1 rfl) ?_
  refine zgX6_37 S hK hP 102 (by decide) zk_102 (v := nI ad) (hY15) dX6_ofSet_12 ?_
  refine zmulN S dX6_ofSet_15 ?_
  refine zaddN S dX6_ofSet_16 ?_
  refine lv_istore (lv' := [(5, .int (nI (mi + ((j - i) * ad)))), (4, .int (nI (j - i))), (0, .ref (A 102)), (1, .int (nI st)), (2, .int (nI i)), (3, .int (nI j))]) hxx hbb dX6_ofSet_17 hl (by decide) rfl (fun ls hl => ?_)
  refine lv_iload hxx hbb dX6_ofSet_19 (lv_at hl 1 rfl) ?_
  refine zif_ne (tgt := 27) S (by omega) dX6_ofSet_21 (by decide) (fun c_1 => ?_) (fun c_1 => ?_)
  · skip
    refine lv_iconst (v := nI 0) hxx hbb dX6_ofSet_27 (by decide) ?_
    refine lv_istore (lv' := [(6, .int (nI 0)), (5, .int (nI (mi + ((j - i) * ad)))), (4, .int (nI (j - i))), (0, .ref (A 102)), (1, .int (nI st)), (2, .int (nI i)), (3, .int (nI j))]) hxx hbb dX6_ofSet_28 hl (by decide) rfl (fun ls hl => ?_)
    refine lv_iload_n hxx hbb dX6_ofSet_30 rfl (lv_at hl 5 rfl) ?_
    refine lv_istore (lv' := [(7, .int (nI i)), (6, .int (nI 0)), (5, .int (nI (mi + ((j - i) * ad)))), (4, .int (nI (j - i))), (0, .ref (A 102)), (1, .int (nI st)), (2, .int (nI i)), (3, .int (nI j))]) hxx hbb dX6_ofSet_31 hl (by decide) rfl (fun ls hl => ?_)
    have L_33 : ∀ (N_33 : Nat) (q b : Nat) (hq : q ≤ j - i) (hb : b = cFit st tx i q) (hb1 : b ≤ 1), j - i - q < N_33 → ∀ (H : Heap) (locs : List Loc) (ls : Array Slot), va_P G.1 vwCl (zW G A Y) H → va_S (zAd A) s.heap H locs → lv_has ls 8 [(0, .ref (A 102)), (1, .int (nI st)), (2, .int (nI i)), (3, .int (nI j)), (4, .int (nI (j - i))), (5, .int (nI (mi + (j - i) * ad))), (6, .int (nI b)), (7, .int (nI (i + q)))] → W p l e R s m args below meth c H locs 0 0 Q (F0 m 33 ls []) := by
      intro N_33
      induction N_33 with
      | zero => intro q b hq hb hb1 hm; exact absurd hm (Nat.not_lt_zero _)
      | succ N_33 ih_33 =>
        intro q b hq hb hb1 hm_33 H locs ls hP hS hl
        refine lv_iload hxx hbb dX6_ofSet_33 (lv_at hl 7 rfl) ?_
        refine lv_iload_n hxx hbb dX6_ofSet_35 rfl (lv_at hl 3 rfl) ?_
        refine zcmp_ge (tgt := 75) S (by omega) (by omega) dX6_ofSet_36 (by decide) (fun c_2 => ?_) (fun c_2 => ?_)
        · skip
          refine lv_iload hxx hbb dX6_ofSet_75 (lv_at hl 4 rfl) ?_
          refine lv_iconst (v := nI 1) hxx hbb dX6_ofSet_77 (by decide) ?_
          refine zsubN S (by omega) dX6_ofSet_78 ?_
          refine lv_aload_n hxx hbb dX6_ofSet_79 rfl (lv_at hl 0 rfl) ?_
          refine zgX6_37 S hK hP 102 (by decide) zk_102 (v := nI ad) (hY15) dX6_ofSet_80 ?_
          refine zmulN S dX6_ofSet_83 ?_
          refine lv_iload hxx hbb dX6_ofSet_84 (lv_at hl 6 rfl) ?_
          refine zif_eq (tgt := 93) S (by omega) dX6_ofSet_86 (by decide) (fun c_3 => ?_) (fun c_3 => ?_)
          · skip
            refine lv_aload_n hxx hbb dX6_ofSet_93 rfl (lv_at hl 0 rfl) ?_
            refine zgX6_44 S hK hP 102 (by decide) zk_102 (v := nI wr) (hY17) dX6_ofSet_94 ?_
            refine zaddN S dX6_ofSet_97 ?_
            refine lv_istore (lv' := [(7, .int (nI ((j - i - 1) * ad + wr))), (0, .ref (A 102)), (1, .int (nI st)), (2, .int (nI i)), (3, .int (nI j)), (4, .int (nI (j - i))), (5, .int (nI (mi + (j - i) * ad))), (6, .int (nI b))]) hxx hbb dX6_ofSet_98 hl (by decide) rfl (fun ls hl => ?_)
            refine lv_iload hxx hbb dX6_ofSet_100 (lv_at hl 6 rfl) ?_
            refine lv_iload hxx hbb dX6_ofSet_102 (lv_at hl 0 rfl) ?_
            refine zcmp_ge (tgt := 112) S (by omega) (by omega) dX6_ofSet_104 (by decide) (fun c_4 => ?_) (fun c_4 => ?_)
            · skip
              refine lv_iload hxx hbb dX6_ofSet_112 (lv_at hl 0 rfl) ?_
              have hq9 : q = j - i := by omega
              have hf9 : cFit st tx i (j - i) = 0 := by rw [← hq9]; omega
              exact hret _ _ _ _ _ _ dX6_ofSet_114 (rfl) hP hS (⟨by simp only [cSet, if_pos hf9]; rw [if_neg (by omega), if_neg (by omega)], rfl⟩)
            · skip
              refine lv_iload hxx hbb dX6_ofSet_107 (lv_at hl 6 rfl) ?_
              refine lv_goto (tgt := 114) hxx hbb dX6_ofSet_109 (by decide) ?_
              have hq9 : q = j - i := by omega
              have hf9 : cFit st tx i (j - i) = 0 := by rw [← hq9]; omega
              exact hret _ _ _ _ _ _ dX6_ofSet_114 (rfl) hP hS (⟨by simp only [cSet, if_pos hf9]; rw [if_neg (by omega), if_pos (by omega)], rfl⟩)
          · skip
            refine lv_iconst (v := nI 0) hxx hbb dX6_ofSet_89 (by decide) ?_
            refine lv_goto (tgt := 97) hxx hbb dX6_ofSet_90 (by decide) ?_
            refine zaddN S dX6_ofSet_97 ?_
            refine lv_istore (lv' := [(7, .int (nI ((j - i - 1) * ad + 0))), (0, .ref (A 102)), (1, .int (nI st)), (2, .int (nI i)), (3, .int (nI j)), (4, .int (nI (j - i))), (5, .int (nI (mi + (j - i) * ad))), (6, .int (nI b))]) hxx hbb dX6_ofSet_98 hl (by decide) rfl (fun ls hl => ?_)
            refine lv_iload hxx hbb dX6_ofSet_100 (lv_at hl 6 rfl) ?_
            refine lv_iload hxx hbb dX6_ofSet_102 (lv_at hl 0 rfl) ?_
            refine zcmp_ge (tgt := 112) S (by omega) (by omega) dX6_ofSet_104 (by decide) (fun c_5 => ?_) (fun c_5 => ?_)
            · skip
              refine lv_iload hxx hbb dX6_ofSet_112 (lv_at hl 0 rfl) ?_
              have hq9 : q = j - i := by omega
              have hf9 : ¬ cFit st tx i (j - i) = 0 := by rw [← hq9]; omega
              exact hret _ _ _ _ _ _ dX6_ofSet_114 (rfl) hP hS (⟨by simp only [cSet, if_neg hf9]; rw [if_neg (by omega), if_neg (by omega)], rfl⟩)
            · skip
              refine lv_iload hxx hbb dX6_ofSet_107 (lv_at hl 6 rfl) ?_
              refine lv_goto (tgt := 114) hxx hbb dX6_ofSet_109 (by decide) ?_
              have hq9 : q = j - i := by omega
              have hf9 : ¬ cFit st tx i (j - i) = 0 := by rw [← hq9]; omega
              exact hret _ _ _ _ _ _ dX6_ofSet_114 (rfl) hP hS (⟨by simp only [cSet, if_neg hf9]; rw [if_neg (by omega), if_pos (by omega)], rfl⟩)
        · skip
          refine lv_iload hxx hbb dX6_ofSet_39 (lv_at hl 6 rfl) ?_
          refine zif_ne (tgt := 62) S (by omega) dX6_ofSet_41 (by decide) (fun c_6 => ?_) (fun c_6 => ?_)
          · skip
            refine lv_iconst (v := nI 1) hxx hbb dX6_ofSet_62 (by decide) ?_
            refine lv_goto (tgt := 67) hxx hbb dX6_ofSet_63 (by decide) ?_
            refine lv_istore (lv' := [(6, .int (nI 1)), (0, .ref (A 102)), (1, .int (nI st)), (2, .int (nI i)), (3, .int (nI j)), (4, .int (nI (j - i))), (5, .int (nI (mi + (j - i) * ad))), (7, .int (nI (i + q)))]) hxx hbb dX6_ofSet_67 hl (by decide) rfl (fun ls hl => ?_)
            refine lv_iinc (v := nI (i + q + 1)) (lv' := [(7, .int (nI (i + q + 1))), (6, .int (nI 1)), (0, .ref (A 102)), (1, .int (nI st)), (2, .int (nI i)), (3, .int (nI j)), (4, .int (nI (j - i))), (5, .int (nI (mi + (j - i) * ad)))]) hxx hbb dX6_ofSet_69 hl (k := 7) rfl (zinc1 _) (by decide) rfl (fun ls hl => ?_)
            refine lv_goto (tgt := 33) hxx hbb dX6_ofSet_72 (by decide) ?_
            exact ih_33 (q + 1) 1 (by omega) (by simp only [cFit]; first | rw [if_pos (by omega)] | rw [if_neg (by omega), if_pos (by omega)]) (by omega) (by omega) _ _ _ hP hS (lv_sub hl [2, 3, 4, 5, 6, 7, 1, 0] rfl)
          · skip
            have ht9 := htx (i + q) (by omega)
            refine lv_iload_n hxx hbb dX6_ofSet_44 rfl (lv_at hl 1 rfl) ?_
            refine lv_aload_n hxx hbb dX6_ofSet_45 rfl (lv_at hl 0 rfl) ?_
            refine zgX6_47 S hK hP 102 (by decide) zk_102 dX6_ofSet_46 ?_
            refine lv_iload hxx hbb dX6_ofSet_49 (lv_at hl 7 rfl) ?_
            refine zaldN S hK hP 112 24 (by decide) zk_112 zl_112 (by omega) (v := nI (tx (i + q))) (hYt _ (by omega)) dX6_ofSet_51 ?_
            refine lv_bipush (v := nI 97) hxx hbb dX6_ofSet_52 (by decide) ?_
            refine zsubN S (by omega) dX6_ofSet_54 ?_
            refine lv_ishr hxx hbb dX6_ofSet_55 ?_
            refine lv_iconst (v := nI 1) hxx hbb dX6_ofSet_56 (by decide) ?_
            refine lv_iand hxx hbb dX6_ofSet_57 ?_
            rw [zbit (by omega) (by omega)]
            refine lv_iconst (v := nI 1) hxx hbb dX6_ofSet_58 (by decide) ?_
            refine zcmp_ne (tgt := 66) S (by omega) (by omega) dX6_ofSet_59 (by decide) (fun c_7 => ?_) (fun c_7 => ?_)
            · skip
              refine lv_iconst (v := nI 0) hxx hbb dX6_ofSet_66 (by decide) ?_
              refine lv_istore (lv' := [(6, .int (nI 0)), (0, .ref (A 102)), (1, .int (nI st)), (2, .int (nI i)), (3, .int (nI j)), (4, .int (nI (j - i))), (5, .int (nI (mi + (j - i) * ad))), (7, .int (nI (i + q)))]) hxx hbb dX6_ofSet_67 hl (by decide) rfl (fun ls hl => ?_)
              refine lv_iinc (v := nI (i + q + 1)) (lv' := [(7, .int (nI (i + q + 1))), (6, .int (nI 0)), (0, .ref (A 102)), (1, .int (nI st)), (2, .int (nI i)), (3, .int (nI j)), (4, .int (nI (j - i))), (5, .int (nI (mi + (j - i) * ad)))]) hxx hbb dX6_ofSet_69 hl (k := 7) rfl (zinc1 _) (by decide) rfl (fun ls hl => ?_)
              refine lv_goto (tgt := 33) hxx hbb dX6_ofSet_72 (by decide) ?_
              exact ih_33 (q + 1) 0 (by omega) (by simp only [cFit]; rw [if_neg (by omega), if_neg (by omega)]) (by omega) (by omega) _ _ _ hP hS (lv_sub hl [2, 3, 4, 5, 6, 7, 1, 0] rfl)
            · skip
              refine lv_iconst (v := nI 1) hxx hbb dX6_ofSet_62 (by decide) ?_
              refine lv_goto (tgt := 67) hxx hbb dX6_ofSet_63 (by decide) ?_
              refine lv_istore (lv' := [(6, .int (nI 1)), (0, .ref (A 102)), (1, .int (nI st)), (2, .int (nI i)), (3, .int (nI j)), (4, .int (nI (j - i))), (5, .int (nI (mi + (j - i) * ad))), (7, .int (nI (i + q)))]) hxx hbb dX6_ofSet_67 hl (by decide) rfl (fun ls hl => ?_)
              refine lv_iinc (v := nI (i + q + 1)) (lv' := [(7, .int (nI (i + q + 1))), (6, .int (nI 1)), (0, .ref (A 102)), (1, .int (nI st)), (2, .int (nI i)), (3, .int (nI j)), (4, .int (nI (j - i))), (5, .int (nI (mi + (j - i) * ad)))]) hxx hbb dX6_ofSet_69 hl (k := 7) rfl (zinc1 _) (by decide) rfl (fun ls hl => ?_)
              refine lv_goto (tgt := 33) hxx hbb dX6_ofSet_72 (by decide) ?_
              exact ih_33 (q + 1) 1 (by omega) (by simp only [cFit]; first | rw [if_pos (by omega)] | rw [if_neg (by omega), if_pos (by omega)]) (by omega) (by omega) _ _ _ hP hS (lv_sub hl [2, 3, 4, 5, 6, 7, 1, 0] rfl)
    exact L_33 (_ + 1) 0 0 (by omega) rfl (by omega) (Nat.lt_succ_self _) _ _ _ hP hS (lv_sub hl [4, 5, 6, 7, 3, 2, 1, 0] rfl)
  · skip
    refine lv_iload hxx hbb dX6_ofSet_24 (lv_at hl 0 rfl) ?_
    exact hret _ _ _ _ _ _ dX6_ofSet_26 (rfl) hP hS (⟨by simp only [cSet]; rw [if_pos (by omega)], rfl⟩)

set_option maxHeartbeats 4000000 in
set_option maxRecDepth 100000 in
theorem kX6_ofRow (l : Launch) (G : zG) (A : Nat → Nat) (Y : zY) (a b i j : Nat) (f g : Nat → Nat → Nat) (ha : a < 24) (hb : b < 24) (hij : i ≤ j) (hj : j ≤ 24) (hf : ∀ k, i ≤ k → k ≤ j → Y 113 (625 * a + 25 * i + k) = nI (f i k) ∧ f i k ≤ 1000000) (hg : ∀ k, i ≤ k → k ≤ j → Y 113 (625 * b + 25 * k + j) = nI (g k j) ∧ g k j ≤ 1000000) : ZI l yX6_ofRow cX6_ofRow 8 (.int) 1 23 G A Y [.ref (A 102), .int (nI a), .int (nI b), .int (nI i), .int (nI j)] (fun r Y' => r = nI (cRow f g i j (j - i + 1)) ∧ Y' = Y) := by
  refine ZI.enter (by decide) (Nat.le_of_ble_eq_true rfl) ?_
  intro p e s m args below meth c R Q hxx hbb S hK hfr hlo hret H ls hP hS hl
  have hB : ∀ q, zAd A q → zAd A q := fun _ h => h
  have hl : lv_has ls 8 [(0, .ref (A 102)), (1, .int (nI a)), (2, .int (nI b)), (3, .int (nI i)), (4, .int (nI j))] := hl
  have S : CallFix p m c cX6_ofRow 8 s args wsL_law RX6 := S
  refine zldc S (v := 1000000) zxX6_138 dX6_ofRow_0 ?_
  rw [show (1000000 : Int32) = nI 1000000 from rfl]
  refine lv_istore (lv' := [(5, .int (nI 1000000)), (0, .ref (A 102)), (1, .int (nI a)), (2, .int (nI b)), (3, .int (nI i)), (4, .int (nI j))]) hxx hbb dX6_ofRow_2 hl (by decide) rfl (fun ls hl => ?_)
  refine lv_iload_n hxx hbb dX6_ofRow_4 rfl (lv_at hl 4 rfl) ?_
  refine lv_istore (lv' := [(6, .int (nI i)), (5, .int (nI 1000000)), (0, .ref (A 102)), (1, .int (nI a)), (2, .int (nI b)), (3, .int (nI i)), (4, .int (nI j))]) hxx hbb dX6_ofRow_5 hl (by decide) rfl (fun ls hl => ?_)
  have L_7 : ∀ (N_7 : Nat) (q u : Nat) (hq : q ≤ j - i + 1) (hu : u = cRow f g i j q) (hu2 : u ≤ 1000000), j + 1 - i - q < N_7 → ∀ (H : Heap) (locs : List Loc) (ls : Array Slot), va_P G.1 vwCl (zW G A Y) H → va_S (zAd A) s.heap H locs → lv_has ls 8 [(0, .ref (A 102)), (1, .int (nI a)), (2, .int (nI b)), (3, .int (nI i)), (4, .int (nI j)), (5, .int (nI u)), (6, .int (nI (i + q)))] → W p l e R s m args below meth c H locs 0 0 Q (F0 m 7 ls []) := by
    intro N_7
    induction N_7 with
    | zero => intro q u hq hu hu2 hm; exact absurd hm (Nat.not_lt_zero _)
    | succ N_7 ih_7 =>
      intro q u hq hu hu2 hm_7 H locs ls hP hS hl
      refine lv_iload hxx hbb dX6_ofRow_7 (lv_at hl 6 rfl) ?_
      refine lv_iload hxx hbb dX6_ofRow_9 (lv_at hl 4 rfl) ?_
      refine zcmp_gt (tgt := 58) S (by omega) (by omega) dX6_ofRow_11 (by decide) (fun c_1 => ?_) (fun c_1 => ?_)
      · skip
        refine lv_iload hxx hbb dX6_ofRow_58 (lv_at hl 5 rfl) ?_
        exact hret _ _ _ _ _ _ dX6_ofRow_60 (rfl) hP hS (⟨by rw [hu, show q = j - i + 1 by omega], rfl⟩)
      · skip
        have hf9 := (hf (i + q) (by omega) (by omega)).2
        have hg9 := (hg (i + q) (by omega) (by omega)).2
        have hc9 := cAdd_le hf9 hg9
        refine lv_aload_n hxx hbb dX6_ofRow_14 rfl (lv_at hl 0 rfl) ?_
        refine lv_iload_n hxx hbb dX6_ofRow_15 rfl (lv_at hl 1 rfl) ?_
        refine lv_iload_n hxx hbb dX6_ofRow_16 rfl (lv_at hl 3 rfl) ?_
        refine lv_iload hxx hbb dX6_ofRow_17 (lv_at hl 6 rfl) ?_
        refine ZI.callV S hK hP hS hB (kX6_costOf l G A Y a i (i + q) (by omega) (by omega) (by omega)) zwX6_139 zdX6_costOf rfl ⟨Nat.le_trans (by decide) hfr, Nat.le_trans (by decide) hlo⟩ (by decide) (zcK6 zk_102) rfl rfl (Nat.le_of_ble_eq_true rfl) hl.1 dX6_ofRow_19 ⟨Nat.zero_le _, Nat.zero_le _⟩ (fun r_2 Y_3 H locs hq_4 hP hS => ?_)
        obtain ⟨hr9, hY9⟩ := hq_4
        have hr9 := hr9.trans ((hf _ (by omega) (by omega)).1)
        subst hr9; rw [hY9] at hP
        refine lv_aload_n hxx hbb dX6_ofRow_22 rfl (lv_at hl 0 rfl) ?_
        refine lv_iload_n hxx hbb dX6_ofRow_23 rfl (lv_at hl 2 rfl) ?_
        refine lv_iload hxx hbb dX6_ofRow_24 (lv_at hl 6 rfl) ?_
        refine lv_iload hxx hbb dX6_ofRow_26 (lv_at hl 4 rfl) ?_
        refine ZI.callV S hK hP hS hB (kX6_costOf l G A Y b (i + q) j (by omega) (by omega) (by omega)) zwX6_139 zdX6_costOf rfl ⟨Nat.le_trans (by decide) hfr, Nat.le_trans (by decide) hlo⟩ (by decide) (zcK6 zk_102) rfl rfl (Nat.le_of_ble_eq_true rfl) hl.1 dX6_ofRow_28 ⟨Nat.zero_le _, Nat.zero_le _⟩ (fun r_5 Y_6 H locs hq_7 hP hS => ?_)
        obtain ⟨hr9, hY9⟩ := hq_7
        have hr9 := hr9.trans ((hg _ (by omega) (by omega)).1)
        subst hr9; rw [hY9] at hP
        refine ZI.callS S hK hP hS hB (kX6_sum l G A Y (f i (i + q)) (g (i + q) j) (by omega) (by omega)) zwX6_142 zdX6_sum rfl ⟨Nat.le_trans (by decide) hfr, Nat.le_trans (by decide) hlo⟩ rfl (Nat.le_of_ble_eq_true rfl) hl.1 dX6_ofRow_31 ⟨Nat.zero_le _, Nat.zero_le _⟩ (fun r_8 Y_9 H locs hq_10 hP hS => ?_)
        obtain ⟨hr9, hY9⟩ := hq_10
        subst hr9; rw [hY9] at hP
        refine lv_istore (lv' := [(7, .int (nI (cAdd (f i (i + q)) (g (i + q) j)))), (0, .ref (A 102)), (1, .int (nI a)), (2, .int (nI b)), (3, .int (nI i)), (4, .int (nI j)), (5, .int (nI u)), (6, .int (nI (i + q)))]) hxx hbb dX6_ofRow_34 hl (by decide) rfl (fun ls hl => ?_)
        refine lv_iload hxx hbb dX6_ofRow_36 (lv_at hl 0 rfl) ?_
        refine lv_iload hxx hbb dX6_ofRow_38 (lv_at hl 6 rfl) ?_
        refine zcmp_ge (tgt := 48) S (by omega) (by omega) dX6_ofRow_40 (by decide) (fun c_11 => ?_) (fun c_11 => ?_)
        · skip
          refine lv_iload hxx hbb dX6_ofRow_48 (lv_at hl 6 rfl) ?_
          refine lv_istore (lv' := [(5, .int (nI u)), (7, .int (nI (cAdd (f i (i + q)) (g (i + q) j)))), (0, .ref (A 102)), (1, .int (nI a)), (2, .int (nI b)), (3, .int (nI i)), (4, .int (nI j)), (6, .int (nI (i + q)))]) hxx hbb dX6_ofRow_50 hl (by decide) rfl (fun ls hl => ?_)
          refine lv_iinc (v := nI (i + q + 1)) (lv' := [(6, .int (nI (i + q + 1))), (5, .int (nI u)), (7, .int (nI (cAdd (f i (i + q)) (g (i + q) j)))), (0, .ref (A 102)), (1, .int (nI a)), (2, .int (nI b)), (3, .int (nI i)), (4, .int (nI j))]) hxx hbb dX6_ofRow_52 hl (k := 7) rfl (zinc1 _) (by decide) rfl (fun ls hl => ?_)
          refine lv_goto (tgt := 7) hxx hbb dX6_ofRow_55 (by decide) ?_
          exact ih_7 (q + 1) u (by omega) (by simp only [cRow, ← hu]; rw [if_neg (by omega)]) (by omega) (by omega) _ _ _ hP hS (lv_sub hl [3, 4, 5, 6, 7, 1, 0] rfl)
        · skip
          refine lv_iload hxx hbb dX6_ofRow_43 (lv_at hl 0 rfl) ?_
          refine lv_goto (tgt := 50) hxx hbb dX6_ofRow_45 (by decide) ?_
          refine lv_istore (lv' := [(5, .int (nI (cAdd (f i (i + q)) (g (i + q) j)))), (7, .int (nI (cAdd (f i (i + q)) (g (i + q) j)))), (0, .ref (A 102)), (1, .int (nI a)), (2, .int (nI b)), (3, .int (nI i)), (4, .int (nI j)), (6, .int (nI (i + q)))]) hxx hbb dX6_ofRow_50 hl (by decide) rfl (fun ls hl => ?_)
          refine lv_iinc (v := nI (i + q + 1)) (lv' := [(6, .int (nI (i + q + 1))), (5, .int (nI (cAdd (f i (i + q)) (g (i + q) j)))), (7, .int (nI (cAdd (f i (i + q)) (g (i + q) j)))), (0, .ref (A 102)), (1, .int (nI a)), (2, .int (nI b)), (3, .int (nI i)), (4, .int (nI j))]) hxx hbb dX6_ofRow_52 hl (k := 7) rfl (zinc1 _) (by decide) rfl (fun ls hl => ?_)
          refine lv_goto (tgt := 7) hxx hbb dX6_ofRow_55 (by decide) ?_
          exact ih_7 (q + 1) (cAdd (f i (i + q)) (g (i + q) j)) (by omega) (by simp only [cRow, ← hu]; rw [if_pos (by omega)]) (by omega) (by omega) _ _ _ hP hS (lv_sub hl [3, 4, 5, 6, 7, 1, 0] rfl)
  exact L_7 (_ + 1) 0 1000000 (by omega) rfl (by omega) (Nat.lt_succ_self _) _ _ _ hP hS (lv_sub hl [2, 3, 4, 5, 6, 1, 0] rfl)

set_option maxHeartbeats 4000000 in
set_option maxRecDepth 100000 in
theorem kX6_ofPlus (l : Launch) (G : zG) (A : Nat → Nat) (Y : zY) (n a i j : Nat) (f x : Nat → Nat → Nat) (hn : n < 24) (ha : a < 24) (hij : i ≤ j) (hj : j ≤ 24) (hf : ∀ k, i ≤ k → k < j → Y 113 (625 * n + 25 * i + k) = nI (f i k) ∧ f i k ≤ 1000000) (hx : ∀ k, i ≤ k → k ≤ j → Y 113 (625 * a + 25 * k + j) = nI (x k j) ∧ x k j ≤ 1000000) : ZI l yX6_ofPlus cX6_ofPlus 8 (.int) 1 23 G A Y [.ref (A 102), .int (nI n), .int (nI a), .int (nI i), .int (nI j)] (fun r Y' => r = nI (cPlv f x i j (j - i - 1)) ∧ Y' = Y) := by
  refine ZI.enter (by decide) (Nat.le_of_ble_eq_true rfl) ?_
  intro p e s m args below meth c R Q hxx hbb S hK hfr hlo hret H ls hP hS hl
  have hB : ∀ q, zAd A q → zAd A q := fun _ h => h
  have hl : lv_has ls 8 [(0, .ref (A 102)), (1, .int (nI n)), (2, .int (nI a)), (3, .int (nI i)), (4, .int (nI j))] := hl
  have S : CallFix p m c cX6_ofPlus 8 s args wsL_law RX6 := S
  refine lv_aload_n hxx hbb dX6_ofPlus_0 rfl (lv_at hl 0 rfl) ?_
  refine lv_iload_n hxx hbb dX6_ofPlus_1 rfl (lv_at hl 2 rfl) ?_
  refine lv_iload_n hxx hbb dX6_ofPlus_2 rfl (lv_at hl 3 rfl) ?_
  refine lv_iload hxx hbb dX6_ofPlus_3 (lv_at hl 4 rfl) ?_
  refine ZI.callV S hK hP hS hB (kX6_costOf l G A Y a i j (by omega) (by omega) (by omega)) zwX6_139 zdX6_costOf rfl ⟨Nat.le_trans (by decide) hfr, Nat.le_trans (by decide) hlo⟩ (by decide) (zcK6 zk_102) rfl rfl (Nat.le_of_ble_eq_true rfl) hl.1 dX6_ofPlus_5 ⟨Nat.zero_le _, Nat.zero_le _⟩ (fun r_1 Y_2 H locs hq_3 hP hS => ?_)
  obtain ⟨hr9, hY9⟩ := hq_3
  have hr9 := hr9.trans ((hx i (by omega) (by omega)).1)
  subst hr9; rw [hY9] at hP
  refine lv_istore (lv' := [(5, .int (nI (x i j))), (0, .ref (A 102)), (1, .int (nI n)), (2, .int (nI a)), (3, .int (nI i)), (4, .int (nI j))]) hxx hbb dX6_ofPlus_8 hl (by decide) rfl (fun ls hl => ?_)
  refine lv_iload_n hxx hbb dX6_ofPlus_10 rfl (lv_at hl 4 rfl) ?_
  refine lv_iconst (v := nI 1) hxx hbb dX6_ofPlus_11 (by decide) ?_
  refine zaddN S dX6_ofPlus_12 ?_
  refine lv_istore (lv' := [(6, .int (nI (i + 1))), (5, .int (nI (x i j))), (0, .ref (A 102)), (1, .int (nI n)), (2, .int (nI a)), (3, .int (nI i)), (4, .int (nI j))]) hxx hbb dX6_ofPlus_13 hl (by decide) rfl (fun ls hl => ?_)
  have L_15 : ∀ (N_15 : Nat) (q u : Nat) (hq : q ≤ j - i - 1) (hu : u = cPlv f x i j q) (hu2 : u ≤ 1000000), j - i - q < N_15 → ∀ (H : Heap) (locs : List Loc) (ls : Array Slot), va_P G.1 vwCl (zW G A Y) H → va_S (zAd A) s.heap H locs → lv_has ls 8 [(0, .ref (A 102)), (1, .int (nI n)), (2, .int (nI a)), (3, .int (nI i)), (4, .int (nI j)), (5, .int (nI u)), (6, .int (nI (i + 1 + q)))] → W p l e R s m args below meth c H locs 0 0 Q (F0 m 15 ls []) := by
    intro N_15
    induction N_15 with
    | zero => intro q u hq hu hu2 hm; exact absurd hm (Nat.not_lt_zero _)
    | succ N_15 ih_15 =>
      intro q u hq hu hu2 hm_15 H locs ls hP hS hl
      refine lv_iload hxx hbb dX6_ofPlus_15 (lv_at hl 6 rfl) ?_
      refine lv_iload hxx hbb dX6_ofPlus_17 (lv_at hl 4 rfl) ?_
      refine zcmp_ge (tgt := 66) S (by omega) (by omega) dX6_ofPlus_19 (by decide) (fun c_4 => ?_) (fun c_4 => ?_)
      · skip
        refine lv_iload hxx hbb dX6_ofPlus_66 (lv_at hl 5 rfl) ?_
        exact hret _ _ _ _ _ _ dX6_ofPlus_68 (rfl) hP hS (⟨by rw [hu, show q = j - i - 1 by omega], rfl⟩)
      · skip
        have hf9 := (hf (i + 1 + q) (by omega) (by omega)).2
        have hx9 := (hx (i + 1 + q) (by omega) (by omega)).2
        have hc9 := cAdd_le hf9 hx9
        refine lv_aload_n hxx hbb dX6_ofPlus_22 rfl (lv_at hl 0 rfl) ?_
        refine lv_iload_n hxx hbb dX6_ofPlus_23 rfl (lv_at hl 1 rfl) ?_
        refine lv_iload_n hxx hbb dX6_ofPlus_24 rfl (lv_at hl 3 rfl) ?_
        refine lv_iload hxx hbb dX6_ofPlus_25 (lv_at hl 6 rfl) ?_
        refine ZI.callV S hK hP hS hB (kX6_costOf l G A Y n i (i + 1 + q) (by omega) (by omega) (by omega)) zwX6_139 zdX6_costOf rfl ⟨Nat.le_trans (by decide) hfr, Nat.le_trans (by decide) hlo⟩ (by decide) (zcK6 zk_102) rfl rfl (Nat.le_of_ble_eq_true rfl) hl.1 dX6_ofPlus_27 ⟨Nat.zero_le _, Nat.zero_le _⟩ (fun r_5 Y_6 H locs hq_7 hP hS => ?_)
        obtain ⟨hr9, hY9⟩ := hq_7
        have hr9 := hr9.trans ((hf _ (by omega) (by omega)).1)
        subst hr9; rw [hY9] at hP
        refine lv_aload_n hxx hbb dX6_ofPlus_30 rfl (lv_at hl 0 rfl) ?_
        refine lv_iload_n hxx hbb dX6_ofPlus_31 rfl (lv_at hl 2 rfl) ?_
        refine lv_iload hxx hbb dX6_ofPlus_32 (lv_at hl 6 rfl) ?_
        refine lv_iload hxx hbb dX6_ofPlus_34 (lv_at hl 4 rfl) ?_
        refine ZI.callV S hK hP hS hB (kX6_costOf l G A Y a (i + 1 + q) j (by omega) (by omega) (by omega)) zwX6_139 zdX6_costOf rfl ⟨Nat.le_trans (by decide) hfr, Nat.le_trans (by decide) hlo⟩ (by decide) (zcK6 zk_102) rfl rfl (Nat.le_of_ble_eq_true rfl) hl.1 dX6_ofPlus_36 ⟨Nat.zero_le _, Nat.zero_le _⟩ (fun r_8 Y_9 H locs hq_10 hP hS => ?_)
        obtain ⟨hr9, hY9⟩ := hq_10
        have hr9 := hr9.trans ((hx _ (by omega) (by omega)).1)
        subst hr9; rw [hY9] at hP
        refine ZI.callS S hK hP hS hB (kX6_sum l G A Y (f i (i + 1 + q)) (x (i + 1 + q) j) (by omega) (by omega)) zwX6_142 zdX6_sum rfl ⟨Nat.le_trans (by decide) hfr, Nat.le_trans (by decide) hlo⟩ rfl (Nat.le_of_ble_eq_true rfl) hl.1 dX6_ofPlus_39 ⟨Nat.zero_le _, Nat.zero_le _⟩ (fun r_11 Y_12 H locs hq_13 hP hS => ?_)
        obtain ⟨hr9, hY9⟩ := hq_13
        subst hr9; rw [hY9] at hP
        refine lv_istore (lv' := [(7, .int (nI (cAdd (f i (i + 1 + q)) (x (i + 1 + q) j)))), (0, .ref (A 102)), (1, .int (nI n)), (2, .int (nI a)), (3, .int (nI i)), (4, .int (nI j)), (5, .int (nI u)), (6, .int (nI (i + 1 + q)))]) hxx hbb dX6_ofPlus_42 hl (by decide) rfl (fun ls hl => ?_)
        refine lv_iload hxx hbb dX6_ofPlus_44 (lv_at hl 0 rfl) ?_
        refine lv_iload hxx hbb dX6_ofPlus_46 (lv_at hl 6 rfl) ?_
        refine zcmp_ge (tgt := 56) S (by omega) (by omega) dX6_ofPlus_48 (by decide) (fun c_14 => ?_) (fun c_14 => ?_)
        · skip
          refine lv_iload hxx hbb dX6_ofPlus_56 (lv_at hl 6 rfl) ?_
          refine lv_istore (lv' := [(5, .int (nI u)), (7, .int (nI (cAdd (f i (i + 1 + q)) (x (i + 1 + q) j)))), (0, .ref (A 102)), (1, .int (nI n)), (2, .int (nI a)), (3, .int (nI i)), (4, .int (nI j)), (6, .int (nI (i + 1 + q)))]) hxx hbb dX6_ofPlus_58 hl (by decide) rfl (fun ls hl => ?_)
          refine lv_iinc (v := nI (i + 1 + q + 1)) (lv' := [(6, .int (nI (i + 1 + q + 1))), (5, .int (nI u)), (7, .int (nI (cAdd (f i (i + 1 + q)) (x (i + 1 + q) j)))), (0, .ref (A 102)), (1, .int (nI n)), (2, .int (nI a)), (3, .int (nI i)), (4, .int (nI j))]) hxx hbb dX6_ofPlus_60 hl (k := 7) rfl (zinc1 _) (by decide) rfl (fun ls hl => ?_)
          refine lv_goto (tgt := 15) hxx hbb dX6_ofPlus_63 (by decide) ?_
          exact ih_15 (q + 1) u (by omega) (by simp only [cPlv, ← hu]; rw [if_neg (by omega)]) (by omega) (by omega) _ _ _ hP hS (lv_sub hl [3, 4, 5, 6, 7, 1, 0] rfl)
        · skip
          refine lv_iload hxx hbb dX6_ofPlus_51 (lv_at hl 0 rfl) ?_
          refine lv_goto (tgt := 58) hxx hbb dX6_ofPlus_53 (by decide) ?_
          refine lv_istore (lv' := [(5, .int (nI (cAdd (f i (i + 1 + q)) (x (i + 1 + q) j)))), (7, .int (nI (cAdd (f i (i + 1 + q)) (x (i + 1 + q) j)))), (0, .ref (A 102)), (1, .int (nI n)), (2, .int (nI a)), (3, .int (nI i)), (4, .int (nI j)), (6, .int (nI (i + 1 + q)))]) hxx hbb dX6_ofPlus_58 hl (by decide) rfl (fun ls hl => ?_)
          refine lv_iinc (v := nI (i + 1 + q + 1)) (lv' := [(6, .int (nI (i + 1 + q + 1))), (5, .int (nI (cAdd (f i (i + 1 + q)) (x (i + 1 + q) j)))), (7, .int (nI (cAdd (f i (i + 1 + q)) (x (i + 1 + q) j)))), (0, .ref (A 102)), (1, .int (nI n)), (2, .int (nI a)), (3, .int (nI i)), (4, .int (nI j))]) hxx hbb dX6_ofPlus_60 hl (k := 7) rfl (zinc1 _) (by decide) rfl (fun ls hl => ?_)
          refine lv_goto (tgt := 15) hxx hbb dX6_ofPlus_63 (by decide) ?_
          exact ih_15 (q + 1) (cAdd (f i (i + 1 + q)) (x (i + 1 + q) j)) (by omega) (by simp only [cPlv, ← hu]; rw [if_pos (by omega)]) (by omega) (by omega) _ _ _ hP hS (lv_sub hl [3, 4, 5, 6, 7, 1, 0] rfl)
  exact L_15 (_ + 1) 0 (x i j) (by omega) rfl ((hx i (by omega) (by omega)).2) (Nat.lt_succ_self _) _ _ _ hP hS (lv_sub hl [2, 3, 4, 5, 6, 1, 0] rfl)
