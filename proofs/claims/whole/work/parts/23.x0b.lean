theorem cc_of {kd lf rt tx : Nat → Nat} {ad mi wr : Nat} {nn n i j : Nat} (hw : wfN nn kd lf rt) (hn : n < nn) : cCost kd lf rt tx ad mi wr n i j = cStar kd ad (cNode kd lf rt tx ad mi wr (cCost kd lf rt tx ad mi wr) n i j) n i j := cCost_eq (hw.2 n hn).2.2.2.1 (hw.2 n hn).2.2.2.2.1
theorem cc0 {kd lf rt tx : Nat → Nat} {ad mi wr : Nat} {nn n i j : Nat} (hw : wfN nn kd lf rt) (hn : n < nn) (h : kd n = 0) : cSet (lf n) tx ad mi wr i j = cCost kd lf rt tx ad mi wr n i j := by
  rw [cc_of hw hn]; unfold cStar cNode; rw [if_neg (by omega), if_pos h]
theorem cc1 {kd lf rt tx : Nat → Nat} {ad mi wr : Nat} {nn n i j : Nat} (hw : wfN nn kd lf rt) (hn : n < nn) (h : kd n = 1) : cRow (cCost kd lf rt tx ad mi wr (lf n)) (cCost kd lf rt tx ad mi wr (rt n)) i j (j - i + 1) = cCost kd lf rt tx ad mi wr n i j := by
  rw [cc_of hw hn]; unfold cStar cNode; rw [if_neg (by omega), if_neg (by omega), if_pos h]
theorem cc2 {kd lf rt tx : Nat → Nat} {ad mi wr : Nat} {nn n i j : Nat} (hw : wfN nn kd lf rt) (hn : n < nn) (h : kd n = 2) : (if cCost kd lf rt tx ad mi wr (lf n) i j < cCost kd lf rt tx ad mi wr (rt n) i j then cCost kd lf rt tx ad mi wr (lf n) i j else cCost kd lf rt tx ad mi wr (rt n) i j) = cCost kd lf rt tx ad mi wr n i j := by
  rw [cc_of hw hn]; unfold cStar cNode; rw [if_neg (show ¬ kd n = 3 by omega), if_neg (show ¬ kd n = 0 by omega), if_neg (show ¬ kd n = 1 by omega), if_pos h]
theorem cc5 {kd lf rt tx : Nat → Nat} {ad mi wr : Nat} {nn n i j : Nat} (hw : wfN nn kd lf rt) (hn : n < nn) (h : kd n = 5) : (if cCost kd lf rt tx ad mi wr (lf n) i j < (j - i) * ad then cCost kd lf rt tx ad mi wr (lf n) i j else (j - i) * ad) = cCost kd lf rt tx ad mi wr n i j := by
  rw [cc_of hw hn]; unfold cStar cNode; rw [if_neg (show ¬ kd n = 3 by omega), if_neg (show ¬ kd n = 0 by omega), if_neg (show ¬ kd n = 1 by omega), if_neg (show ¬ kd n = 2 by omega), if_pos h]
theorem cc6 {kd lf rt tx : Nat → Nat} {ad mi wr : Nat} {nn n i j : Nat} (hw : wfN nn kd lf rt) (hn : n < nn) (h : kd n = 6) : (if cCost kd lf rt tx ad mi wr (lf n) i j ≤ rt n then cCost kd lf rt tx ad mi wr (lf n) i j else 1000000) = cCost kd lf rt tx ad mi wr n i j := by
  rw [cc_of hw hn]; unfold cStar cNode; rw [if_neg (show ¬ kd n = 3 by omega), if_neg (show ¬ kd n = 0 by omega), if_neg (show ¬ kd n = 1 by omega), if_neg (show ¬ kd n = 2 by omega), if_neg (show ¬ kd n = 5 by omega), if_pos h]
theorem cc4 {kd lf rt tx : Nat → Nat} {ad mi wr : Nat} {nn n i j : Nat} (hw : wfN nn kd lf rt) (hn : n < nn) (h : kd n = 4) : cPl (cCost kd lf rt tx ad mi wr (lf n)) i j = cCost kd lf rt tx ad mi wr n i j := by
  rw [cc_of hw hn]; unfold cStar; rw [if_neg (by omega), cNode_pl (Or.inr h)]
theorem cc3 {kd lf rt tx : Nat → Nat} {ad mi wr : Nat} {nn n i j : Nat} (hw : wfN nn kd lf rt) (hn : n < nn) (h : kd n = 3) : (if cPl (cCost kd lf rt tx ad mi wr (lf n)) i j < (j - i) * ad then cPl (cCost kd lf rt tx ad mi wr (lf n)) i j else (j - i) * ad) = cCost kd lf rt tx ad mi wr n i j := by
  rw [cc_of hw hn]; unfold cStar; rw [if_pos h, cNode_pl (Or.inl h)]
/-- column j of row n is filled -/
def FCp (Y Z : zY) (n j : Nat) (F : Nat → Nat → Nat) : Prop := (∀ q, q ≠ 20 + n → q ≠ 44 → Z q = Y q) ∧ (∀ x, x < tri j ∨ tri j + j < x → Z (20 + n) x = Y (20 + n) x) ∧ ∀ a, a ≤ j → Z (20 + n) (tri j + a) = nI (ci (F a j))
theorem CF.fin {Y Z : zY} {n j : Nat} {F E : Nat → Nat → Nat} (h : CF Y Z n j F 0 (j + 1)) (e : ∀ a, F a j = E a j) : FCp Y Z n j E := ⟨fun q a _ => h.1 q a, h.2.1, fun a ha => (h.2.2 a (Nat.zero_le _) (by omega)).trans (by rw [e a])⟩
theorem CF.fin2 {X Y Z : zY} {n j : Nat} {F E : Nat → Nat → Nat} (hc : ∀ p, p ≠ 44 → Y p = X p) (hn : n < 24) (h : CF Y Z n j F 0 (j + 1)) (e : ∀ a, F a j = E a j) : FCp X Z n j E := ⟨fun q a b => (h.1 q a).trans (hc q b), fun x hx => (h.2.1 x hx).trans (congrFun (hc _ (by omega)) x), fun a ha => (h.2.2 a (Nat.zero_le _) (by omega)).trans (by rw [e a])⟩
/-- row n's columns before k hold F -/
def RWc (Y : zY) (n : Nat) (F : Nat → Nat → Nat) (k : Nat) : Prop := ∀ i j, i ≤ j → j < k → Y (20 + n) (tri j + i) = nI (ci (F i j))
theorem FCp.row {Y Z : zY} {n j : Nat} {F : Nat → Nat → Nat} (h : FCp Y Z n j F) (h0 : RWc Y n F j) : RWc Z n F (j + 1) := fun a b h1 h2 => by
  by_cases e : b = j
  · subst e; exact h.2.2 a h1
  · exact (h.2.1 _ (Or.inl (by have := tri_col (i := a) (j := b) (i' := 0) (j' := j) h1 (by omega); omega))).trans (h0 a b h1 (by omega))
theorem FCp.other {Y Z : zY} {n j m k : Nat} {F E : Nat → Nat → Nat} (h : FCp Y Z n j F) (hm : m ≠ n) (hm2 : m < 24) (h0 : RWc Y m E k) : RWc Z m E k := fun a b h1 h2 => (congrFun (h.1 _ (by omega) (by omega)) _).trans (h0 a b h1 h2)
/-- learn changes no more than the costs' rows, the chains and the number of known columns -/
def LK (Y Z : zY) : Prop := (∀ q, (q < 20 ∨ 44 < q) → q ≠ 18 → Z q = Y q) ∧ ∀ k, k ≠ 2 → Z 18 k = Y 18 k
theorem LK.rf {Y : zY} : LK Y Y := ⟨fun _ _ _ => rfl, fun _ _ => rfl⟩
theorem LK.fc {X Y Z : zY} {n j : Nat} {F : Nat → Nat → Nat} (h : LK X Y) (hn : n < 24) (g : FCp Y Z n j F) : LK X Z := ⟨fun q a b => (g.1 q (by omega) (by omega)).trans (h.1 q a b), fun k hk => (congrFun (g.1 18 (by omega) (by omega)) k).trans (h.2 k hk)⟩
theorem LK.kn {X Y : zY} {v : Int32} (h : LK X Y) : LK X (zU Y 18 2 v) := ⟨fun q a b => (zU_row b).trans (h.1 q a b), fun k hk => (zU_nj hk).trans (h.2 k hk)⟩
theorem LK.trans {X Y Z : zY} (h : LK X Y) (g : LK Y Z) : LK X Z := ⟨fun q a b => (g.1 q a b).trans (h.1 q a b), fun k hk => (g.2 k hk).trans (h.2 k hk)⟩
theorem XC.lk {Y Z : zY} {nn : Nat} {kd lf rt tx : Nat → Nat} {len ad mi wr : Nat} {sz : Nat → Nat} (h : XC Y nn kd lf rt tx len ad mi wr sz) (k : LK Y Z) : XC Z nn kd lf rt tx len ad mi wr sz := by
  obtain ⟨a1, a2, a3, a4, a5, a6, a7, a8, a9, b1, b2, b3, b4⟩ := h
  refine ⟨a1, a2, a3, a4, a5, a6, a7, ?_, ?_, ?_, ?_, ?_, ?_⟩
  · unfold XP at *
    rw [k.1 11 (by omega) (by omega), k.1 (11 + 1) (by omega) (by omega), k.1 (11 + 2) (by omega) (by omega), k.1 (11 + 3) (by omega) (by omega), k.1 (11 + 4) (by omega) (by omega)]; exact a8
  · rw [k.1 16 (by omega) (by omega)]; exact a9
  · rw [k.1 17 (by omega) (by omega)]; exact b1
  · rw [k.2 3 (by omega)]; exact b2
  · rw [k.2 4 (by omega)]; exact b3
  · rw [k.2 5 (by omega)]; exact b4
/-- the columns before k are known -/
def XT (Y : zY) (C : Nat → Nat → Nat → Nat) (nn k : Nat) : Prop := Y 18 2 = nI k ∧ ∀ n, n < nn → RWc Y n (C n) k
set_option maxHeartbeats 4000000 in
set_option maxRecDepth 100000 in
theorem kX0_fillColumn (l : Launch) (G : zG) (A : Nat → Nat) (Y : zY) (n j : Nat) (nn : Nat) (kd lf rt tx : Nat → Nat) (len ad mi wr : Nat) (sz : Nat → Nat) (hXC : XC Y nn kd lf rt tx len ad mi wr sz) (hn : n < nn) (hjl : j ≤ len) (hop : ∀ a, a < n → ∀ i k, i ≤ k → k ≤ j → Y (20 + a) (tri k + i) = nI (ci ((cCost kd lf rt tx ad mi wr) a i k))) : ZV l yX0_fillColumn cX0_fillColumn 9 2 49 G A Y [.ref (A 18), .ref (A 11), .int (nI n), .ref (A 16), .int (nI j)] (fun Y' => FCp Y Y' n j ((cCost kd lf rt tx ad mi wr) n)) := by
  refine ZV.enter (by decide) (Nat.le_of_ble_eq_true rfl) ?_
  intro p e s m args below meth c R Q hxx hbb S hK hfr hlo hret H ls hP hS hl
  have hB : ∀ q, zAd A q → zAd A q := fun _ h => h
  have hl : lv_has ls 9 [(0, .ref (A 18)), (1, .ref (A 11)), (2, .int (nI n)), (3, .ref (A 16)), (4, .int (nI j))] := hl
  have S : CallFix p m c cX0_fillColumn 9 s args wsL_law RX0 := S
  obtain ⟨hwf, hsz, hlen, had, hmi, hwr, htx, hXP, h16, hYt, h3, h4, h5⟩ := hXC
  have hnn := hwf.1
  obtain ⟨hk6, hrt, hl0, hl1, hr1, hl6⟩ := hwf.2 n hn
  have hkm := km_spec hk6
  obtain ⟨hn1, hn2, hn3, hn4⟩ := hXP.2 n hn
  have hCle : ∀ a, a < nn → ∀ i j, j ≤ 24 → (cCost kd lf rt tx ad mi wr) a i j ≤ 1000000 := fun a ha i j h => cCost_le hwf had hmi h a ha i
  rcases hkm with ⟨hk, hkk⟩ | ⟨hk, hkk⟩ | ⟨hk, hkk⟩ | ⟨hk, hkk⟩ | ⟨hk, hkk⟩ | ⟨hk, hkk⟩ | ⟨hk, hkk⟩
  · skip
    have g1 : Y 12 n = nI 0 := hn1.trans (by rw [hkk])
    have g4 : Y 15 n = nI (lf n) := hn4.trans (by rw [if_pos hk])
    refine lv_aload_n hxx hbb dX0_fillColumn_0 rfl (lv_at hl 0 rfl) ?_
    refine zgX0_13 S hK hP 18 (by decide) zk_18 dX0_fillColumn_1 ?_
    refine lv_iload_n hxx hbb dX0_fillColumn_4 rfl (lv_at hl 2 rfl) ?_
    refine zaldq19 S hK hP (by omega) dX0_fillColumn_5 ?_
    refine lv_astore (lv' := [(5, .ref (A (20 + n))), (0, .ref (A 18)), (1, .ref (A 11)), (2, .int (nI n)), (3, .ref (A 16)), (4, .int (nI j))]) hxx hbb dX0_fillColumn_6 hl (by decide) rfl (fun ls hl => ?_)
    refine lv_aload_n hxx hbb dX0_fillColumn_8 rfl (lv_at hl 2 rfl) ?_
    refine zgX0_53 S hK hP 11 (by decide) zk_11 dX0_fillColumn_9 ?_
    refine lv_iload_n hxx hbb dX0_fillColumn_12 rfl (lv_at hl 3 rfl) ?_
    refine zaldN S hK hP 15 24 (by decide) zk_15 zl_15 (by omega) (v := nI (lf n)) (g4) dX0_fillColumn_13 ?_
    refine lv_istore (lv' := [(6, .int (nI (lf n))), (5, .ref (A (20 + n))), (0, .ref (A 18)), (1, .ref (A 11)), (2, .int (nI n)), (3, .ref (A 16)), (4, .int (nI j))]) hxx hbb dX0_fillColumn_14 hl (by decide) rfl (fun ls hl => ?_)
    refine lv_aload_n hxx hbb dX0_fillColumn_16 rfl (lv_at hl 3 rfl) ?_
    refine zgX0_56 S hK hP 11 (by decide) zk_11 dX0_fillColumn_17 ?_
    refine lv_iload_n hxx hbb dX0_fillColumn_20 rfl (lv_at hl 4 rfl) ?_
    refine zaldN S hK hP 12 24 (by decide) zk_12 zl_12 (by omega) (v := nI 0) (g1) dX0_fillColumn_21 ?_
    refine zif_ne (tgt := 37) S (by omega) dX0_fillColumn_22 (by decide) (fun c_1 => ?_) (fun c_1 => ?_)
    · skip
      exact absurd c_1 (by decide)
    · skip
      refine lv_aload_n hxx hbb dX0_fillColumn_25 rfl (lv_at hl 2 rfl) ?_
      refine lv_aload hxx hbb dX0_fillColumn_26 (lv_at hl 1 rfl) ?_
      refine lv_iload hxx hbb dX0_fillColumn_28 (lv_at hl 0 rfl) ?_
      refine lv_aload_n hxx hbb dX0_fillColumn_30 rfl (lv_at hl 5 rfl) ?_
      refine lv_iload hxx hbb dX0_fillColumn_31 (lv_at hl 6 rfl) ?_
      refine ZV.callV S hK hP hS hB (kX0_fillLetter l G A Y n (lf n) j tx len ad mi wr (by omega) (by omega) (by omega) hjl hlen had hmi hwr htx h16 hYt h3 h4 h5) zwX0_59 zdX0_fillLetter rfl ⟨Nat.le_trans (by decide) hfr, Nat.le_trans (by decide) hlo⟩ (by decide) (zcK4 zk_18) rfl rfl (Nat.le_of_ble_eq_true rfl) hl.1 dX0_fillColumn_33 ⟨Nat.zero_le _, Nat.zero_le _⟩ (fun Y_3 H locs hq_4 hP hS => ?_)
      have hF := hq_4
      exact hret _ _ _ _ _ dX0_fillColumn_36 hP hS (CF.fin hF (fun a => cc0 hwf hn hk))
  · skip
    have g1 : Y 12 n = nI 1 := hn1.trans (by rw [hkk])
    have g2 : Y 13 n = nI (lf n) := hn2.trans (if_neg (by omega))
    have g4 : Y 15 n = nI 0 := hn4.trans (by rw [if_neg (by omega), if_neg (by omega)])
    have g3 : Y 14 n = nI (rt n) := hn3.trans (if_pos (by omega))
    refine lv_aload_n hxx hbb dX0_fillColumn_0 rfl (lv_at hl 0 rfl) ?_
    refine zgX0_13 S hK hP 18 (by decide) zk_18 dX0_fillColumn_1 ?_
    refine lv_iload_n hxx hbb dX0_fillColumn_4 rfl (lv_at hl 2 rfl) ?_
    refine zaldq19 S hK hP (by omega) dX0_fillColumn_5 ?_
    refine lv_astore (lv' := [(5, .ref (A (20 + n))), (0, .ref (A 18)), (1, .ref (A 11)), (2, .int (nI n)), (3, .ref (A 16)), (4, .int (nI j))]) hxx hbb dX0_fillColumn_6 hl (by decide) rfl (fun ls hl => ?_)
    refine lv_aload_n hxx hbb dX0_fillColumn_8 rfl (lv_at hl 2 rfl) ?_
    refine zgX0_53 S hK hP 11 (by decide) zk_11 dX0_fillColumn_9 ?_
    refine lv_iload_n hxx hbb dX0_fillColumn_12 rfl (lv_at hl 3 rfl) ?_
    refine zaldN S hK hP 15 24 (by decide) zk_15 zl_15 (by omega) (v := nI 0) (g4) dX0_fillColumn_13 ?_
    refine lv_istore (lv' := [(6, .int (nI 0)), (5, .ref (A (20 + n))), (0, .ref (A 18)), (1, .ref (A 11)), (2, .int (nI n)), (3, .ref (A 16)), (4, .int (nI j))]) hxx hbb dX0_fillColumn_14 hl (by decide) rfl (fun ls hl => ?_)
    refine lv_aload_n hxx hbb dX0_fillColumn_16 rfl (lv_at hl 3 rfl) ?_
    refine zgX0_56 S hK hP 11 (by decide) zk_11 dX0_fillColumn_17 ?_
    refine lv_iload_n hxx hbb dX0_fillColumn_20 rfl (lv_at hl 4 rfl) ?_
    refine zaldN S hK hP 12 24 (by decide) zk_12 zl_12 (by omega) (v := nI 1) (g1) dX0_fillColumn_21 ?_
    refine zif_ne (tgt := 37) S (by omega) dX0_fillColumn_22 (by decide) (fun c_5 => ?_) (fun c_5 => ?_)
    · skip
      refine lv_aload_n hxx hbb dX0_fillColumn_37 rfl (lv_at hl 2 rfl) ?_
      refine zgX0_13 S hK hP 18 (by decide) zk_18 dX0_fillColumn_38 ?_
      refine lv_aload_n hxx hbb dX0_fillColumn_41 rfl (lv_at hl 3 rfl) ?_
      refine zgX0_63 S hK hP 11 (by decide) zk_11 dX0_fillColumn_42 ?_
      refine lv_iload_n hxx hbb dX0_fillColumn_45 rfl (lv_at hl 4 rfl) ?_
      refine zaldN S hK hP 13 24 (by decide) zk_13 zl_13 (by omega) (v := nI (lf n)) (g2) dX0_fillColumn_46 ?_
      refine lv_iload_n hxx hbb dX0_fillColumn_47 rfl (lv_at hl 4 rfl) ?_
      refine ZI.callS S hK hP hS hB (kX0_operand l G A Y (nI (lf n)) n (by omega)) zwX0_66 zdX0_operand rfl ⟨Nat.le_trans (by decide) hfr, Nat.le_trans (by decide) hlo⟩ rfl (Nat.le_of_ble_eq_true rfl) hl.1 dX0_fillColumn_48 ⟨Nat.zero_le _, Nat.zero_le _⟩ (fun r_6 Y_7 H locs hq_8 hP hS => ?_)
      obtain ⟨hr9, hY9⟩ := hq_8
      rw [hY9] at hP
      have hr9 := hr9.trans (cOp_nat (by omega) (by omega))
      subst hr9
      refine zaldq19 S hK hP (by omega) dX0_fillColumn_51 ?_
      refine lv_astore (lv' := [(7, .ref (A (20 + (lf n)))), (6, .int (nI 0)), (5, .ref (A (20 + n))), (0, .ref (A 18)), (1, .ref (A 11)), (2, .int (nI n)), (3, .ref (A 16)), (4, .int (nI j))]) hxx hbb dX0_fillColumn_52 hl (by decide) rfl (fun ls hl => ?_)
      refine lv_aload_n hxx hbb dX0_fillColumn_54 rfl (lv_at hl 3 rfl) ?_
      refine zgX0_13 S hK hP 18 (by decide) zk_18 dX0_fillColumn_55 ?_
      refine lv_aload_n hxx hbb dX0_fillColumn_58 rfl (lv_at hl 4 rfl) ?_
      refine zgX0_69 S hK hP 11 (by decide) zk_11 dX0_fillColumn_59 ?_
      refine lv_iload_n hxx hbb dX0_fillColumn_62 rfl (lv_at hl 5 rfl) ?_
      refine zaldN S hK hP 14 24 (by decide) zk_14 zl_14 (by omega) (v := nI (rt n)) (g3) dX0_fillColumn_63 ?_
      refine lv_iload_n hxx hbb dX0_fillColumn_64 rfl (lv_at hl 5 rfl) ?_
      refine ZI.callS S hK hP hS hB (kX0_operand l G A Y (nI (rt n)) n (by omega)) zwX0_66 zdX0_operand rfl ⟨Nat.le_trans (by decide) hfr, Nat.le_trans (by decide) hlo⟩ rfl (Nat.le_of_ble_eq_true rfl) hl.1 dX0_fillColumn_65 ⟨Nat.zero_le _, Nat.zero_le _⟩ (fun r_9 Y_10 H locs hq_11 hP hS => ?_)
      obtain ⟨hr9, hY9⟩ := hq_11
      rw [hY9] at hP
      have hr9 := hr9.trans (cOp_nat (by omega) (by omega))
      subst hr9
      refine zaldq19 S hK hP (by omega) dX0_fillColumn_68 ?_
      refine lv_astore (lv' := [(8, .ref (A (20 + (rt n)))), (7, .ref (A (20 + (lf n)))), (6, .int (nI 0)), (5, .ref (A (20 + n))), (0, .ref (A 18)), (1, .ref (A 11)), (2, .int (nI n)), (3, .ref (A 16)), (4, .int (nI j))]) hxx hbb dX0_fillColumn_69 hl (by decide) rfl (fun ls hl => ?_)
      refine lv_aload_n hxx hbb dX0_fillColumn_71 rfl (lv_at hl 5 rfl) ?_
      refine zgX0_56 S hK hP 11 (by decide) zk_11 dX0_fillColumn_72 ?_
      refine lv_iload_n hxx hbb dX0_fillColumn_75 rfl (lv_at hl 6 rfl) ?_
      refine zaldN S hK hP 12 24 (by decide) zk_12 zl_12 (by omega) (v := nI 1) (g1) dX0_fillColumn_76 ?_
      refine ztabIn S (k := 1) (off := 39) (tgt := 116) rfl dX0_fillColumn_77 (by decide) (by decide) rfl (by decide) ?_
      refine lv_aload_n hxx hbb dX0_fillColumn_116 rfl (lv_at hl 4 rfl) ?_
      refine lv_aload hxx hbb dX0_fillColumn_117 (lv_at hl 3 rfl) ?_
      refine lv_aload hxx hbb dX0_fillColumn_119 (lv_at hl 1 rfl) ?_
      refine lv_aload hxx hbb dX0_fillColumn_121 (lv_at hl 0 rfl) ?_
      refine lv_iload hxx hbb dX0_fillColumn_123 (lv_at hl 8 rfl) ?_
      refine ZV.callV S hK hP hS hB (kX0_fillRow l G A Y n (lf n) (rt n) j ((cCost kd lf rt tx ad mi wr) (lf n)) ((cCost kd lf rt tx ad mi wr) (rt n)) (by omega) (by omega) (by omega) (by omega) (by omega) (by omega) (fun i k h1 h2 => ⟨hop (lf n) (by omega) i k h1 (by omega), hCle (lf n) (by omega) i k (by omega)⟩) (fun i k h1 h2 => ⟨hop (rt n) (by omega) i k h1 (by omega), hCle (rt n) (by omega) i k (by omega)⟩) (fun i k h1 h2 f1 f2 => row_sum hwf hsz had hmi hn hk h1 h2 (by omega) f1 f2)) zwX0_72 zdX0_fillRow rfl ⟨Nat.le_trans (by decide) hfr, Nat.le_trans (by decide) hlo⟩ (by decide) (zcK4 zk_18) rfl rfl (Nat.le_of_ble_eq_true rfl) hl.1 dX0_fillColumn_125 ⟨Nat.zero_le _, Nat.zero_le _⟩ (fun Y_13 H locs hq_14 hP hS => ?_)
      have hF := hq_14
      refine lv_goto (tgt := 205) hxx hbb dX0_fillColumn_128 (by decide) ?_
      exact hret _ _ _ _ _ dX0_fillColumn_205 hP hS (CF.fin hF (fun a => cc1 hwf hn hk))
    · skip
      exact absurd c_5 (by decide)
  · skip
    have g1 : Y 12 n = nI 2 := hn1.trans (by rw [hkk])
    have g2 : Y 13 n = nI (lf n) := hn2.trans (if_neg (by omega))
    have g4 : Y 15 n = nI 0 := hn4.trans (by rw [if_neg (by omega), if_neg (by omega)])
    have g3 : Y 14 n = nI (rt n) := hn3.trans (if_pos (by omega))
    refine lv_aload_n hxx hbb dX0_fillColumn_0 rfl (lv_at hl 0 rfl) ?_
    refine zgX0_13 S hK hP 18 (by decide) zk_18 dX0_fillColumn_1 ?_
    refine lv_iload_n hxx hbb dX0_fillColumn_4 rfl (lv_at hl 2 rfl) ?_
    refine zaldq19 S hK hP (by omega) dX0_fillColumn_5 ?_
    refine lv_astore (lv' := [(5, .ref (A (20 + n))), (0, .ref (A 18)), (1, .ref (A 11)), (2, .int (nI n)), (3, .ref (A 16)), (4, .int (nI j))]) hxx hbb dX0_fillColumn_6 hl (by decide) rfl (fun ls hl => ?_)
    refine lv_aload_n hxx hbb dX0_fillColumn_8 rfl (lv_at hl 2 rfl) ?_
    refine zgX0_53 S hK hP 11 (by decide) zk_11 dX0_fillColumn_9 ?_
    refine lv_iload_n hxx hbb dX0_fillColumn_12 rfl (lv_at hl 3 rfl) ?_
    refine zaldN S hK hP 15 24 (by decide) zk_15 zl_15 (by omega) (v := nI 0) (g4) dX0_fillColumn_13 ?_
    refine lv_istore (lv' := [(6, .int (nI 0)), (5, .ref (A (20 + n))), (0, .ref (A 18)), (1, .ref (A 11)), (2, .int (nI n)), (3, .ref (A 16)), (4, .int (nI j))]) hxx hbb dX0_fillColumn_14 hl (by decide) rfl (fun ls hl => ?_)
    refine lv_aload_n hxx hbb dX0_fillColumn_16 rfl (lv_at hl 3 rfl) ?_
    refine zgX0_56 S hK hP 11 (by decide) zk_11 dX0_fillColumn_17 ?_
    refine lv_iload_n hxx hbb dX0_fillColumn_20 rfl (lv_at hl 4 rfl) ?_
    refine zaldN S hK hP 12 24 (by decide) zk_12 zl_12 (by omega) (v := nI 2) (g1) dX0_fillColumn_21 ?_
    refine zif_ne (tgt := 37) S (by omega) dX0_fillColumn_22 (by decide) (fun c_15 => ?_) (fun c_15 => ?_)
    · skip
      refine lv_aload_n hxx hbb dX0_fillColumn_37 rfl (lv_at hl 2 rfl) ?_
      refine zgX0_13 S hK hP 18 (by decide) zk_18 dX0_fillColumn_38 ?_
      refine lv_aload_n hxx hbb dX0_fillColumn_41 rfl (lv_at hl 3 rfl) ?_
      refine zgX0_63 S hK hP 11 (by decide) zk_11 dX0_fillColumn_42 ?_
      refine lv_iload_n hxx hbb dX0_fillColumn_45 rfl (lv_at hl 4 rfl) ?_
      refine zaldN S hK hP 13 24 (by decide) zk_13 zl_13 (by omega) (v := nI (lf n)) (g2) dX0_fillColumn_46 ?_
      refine lv_iload_n hxx hbb dX0_fillColumn_47 rfl (lv_at hl 4 rfl) ?_
      refine ZI.callS S hK hP hS hB (kX0_operand l G A Y (nI (lf n)) n (by omega)) zwX0_66 zdX0_operand rfl ⟨Nat.le_trans (by decide) hfr, Nat.le_trans (by decide) hlo⟩ rfl (Nat.le_of_ble_eq_true rfl) hl.1 dX0_fillColumn_48 ⟨Nat.zero_le _, Nat.zero_le _⟩ (fun r_16 Y_17 H locs hq_18 hP hS => ?_)
      obtain ⟨hr9, hY9⟩ := hq_18
      rw [hY9] at hP
      have hr9 := hr9.trans (cOp_nat (by omega) (by omega))
      subst hr9
      refine zaldq19 S hK hP (by omega) dX0_fillColumn_51 ?_
      refine lv_astore (lv' := [(7, .ref (A (20 + (lf n)))), (6, .int (nI 0)), (5, .ref (A (20 + n))), (0, .ref (A 18)), (1, .ref (A 11)), (2, .int (nI n)), (3, .ref (A 16)), (4, .int (nI j))]) hxx hbb dX0_fillColumn_52 hl (by decide) rfl (fun ls hl => ?_)
      refine lv_aload_n hxx hbb dX0_fillColumn_54 rfl (lv_at hl 3 rfl) ?_
      refine zgX0_13 S hK hP 18 (by decide) zk_18 dX0_fillColumn_55 ?_
      refine lv_aload_n hxx hbb dX0_fillColumn_58 rfl (lv_at hl 4 rfl) ?_
      refine zgX0_69 S hK hP 11 (by decide) zk_11 dX0_fillColumn_59 ?_
      refine lv_iload_n hxx hbb dX0_fillColumn_62 rfl (lv_at hl 5 rfl) ?_
      refine zaldN S hK hP 14 24 (by decide) zk_14 zl_14 (by omega) (v := nI (rt n)) (g3) dX0_fillColumn_63 ?_
      refine lv_iload_n hxx hbb dX0_fillColumn_64 rfl (lv_at hl 5 rfl) ?_
      refine ZI.callS S hK hP hS hB (kX0_operand l G A Y (nI (rt n)) n (by omega)) zwX0_66 zdX0_operand rfl ⟨Nat.le_trans (by decide) hfr, Nat.le_trans (by decide) hlo⟩ rfl (Nat.le_of_ble_eq_true rfl) hl.1 dX0_fillColumn_65 ⟨Nat.zero_le _, Nat.zero_le _⟩ (fun r_19 Y_20 H locs hq_21 hP hS => ?_)
      obtain ⟨hr9, hY9⟩ := hq_21
      rw [hY9] at hP
      have hr9 := hr9.trans (cOp_nat (by omega) (by omega))
      subst hr9
      refine zaldq19 S hK hP (by omega) dX0_fillColumn_68 ?_
      refine lv_astore (lv' := [(8, .ref (A (20 + (rt n)))), (7, .ref (A (20 + (lf n)))), (6, .int (nI 0)), (5, .ref (A (20 + n))), (0, .ref (A 18)), (1, .ref (A 11)), (2, .int (nI n)), (3, .ref (A 16)), (4, .int (nI j))]) hxx hbb dX0_fillColumn_69 hl (by decide) rfl (fun ls hl => ?_)
      refine lv_aload_n hxx hbb dX0_fillColumn_71 rfl (lv_at hl 5 rfl) ?_
      refine zgX0_56 S hK hP 11 (by decide) zk_11 dX0_fillColumn_72 ?_
      refine lv_iload_n hxx hbb dX0_fillColumn_75 rfl (lv_at hl 6 rfl) ?_
      refine zaldN S hK hP 12 24 (by decide) zk_12 zl_12 (by omega) (v := nI 2) (g1) dX0_fillColumn_76 ?_
      refine ztabIn S (k := 2) (off := 54) (tgt := 131) rfl dX0_fillColumn_77 (by decide) (by decide) rfl (by decide) ?_
      refine lv_aload_n hxx hbb dX0_fillColumn_131 rfl (lv_at hl 4 rfl) ?_
      refine lv_aload hxx hbb dX0_fillColumn_132 (lv_at hl 3 rfl) ?_
      refine lv_aload hxx hbb dX0_fillColumn_134 (lv_at hl 1 rfl) ?_
      refine lv_aload hxx hbb dX0_fillColumn_136 (lv_at hl 0 rfl) ?_
      refine lv_iload hxx hbb dX0_fillColumn_138 (lv_at hl 8 rfl) ?_
      refine ZV.callV S hK hP hS hB (kX0_fillEither l G A Y n (lf n) (rt n) j ((cCost kd lf rt tx ad mi wr) (lf n)) ((cCost kd lf rt tx ad mi wr) (rt n)) (by omega) (by omega) (by omega) (by omega) (by omega) (by omega) (fun i k h1 h2 => ⟨hop (lf n) (by omega) i k h1 (by omega), hCle (lf n) (by omega) i k (by omega)⟩) (fun i k h1 h2 => ⟨hop (rt n) (by omega) i k h1 (by omega), hCle (rt n) (by omega) i k (by omega)⟩)) zwX0_76 zdX0_fillEither rfl ⟨Nat.le_trans (by decide) hfr, Nat.le_trans (by decide) hlo⟩ (by decide) (zcK4 zk_18) rfl rfl (Nat.le_of_ble_eq_true rfl) hl.1 dX0_fillColumn_140 ⟨Nat.zero_le _, Nat.zero_le _⟩ (fun Y_23 H locs hq_24 hP hS => ?_)
      have hF := hq_24
      refine lv_goto (tgt := 205) hxx hbb dX0_fillColumn_143 (by decide) ?_
      exact hret _ _ _ _ _ dX0_fillColumn_205 hP hS (CF.fin hF (fun a => cc2 hwf hn hk))
    · skip
      exact absurd c_15 (by decide)
  · skip
    have g1 : Y 12 n = nI 4 := hn1.trans (by rw [hkk])
    have g2 : Y 13 n = nI (lf n) := hn2.trans (if_neg (by omega))
    have g4 : Y 15 n = nI 0 := hn4.trans (by rw [if_neg (by omega), if_neg (by omega)])
    have g3 : Y 14 n = -1 := hn3.trans (if_neg (by omega))
    refine lv_aload_n hxx hbb dX0_fillColumn_0 rfl (lv_at hl 0 rfl) ?_
    refine zgX0_13 S hK hP 18 (by decide) zk_18 dX0_fillColumn_1 ?_
    refine lv_iload_n hxx hbb dX0_fillColumn_4 rfl (lv_at hl 2 rfl) ?_
    refine zaldq19 S hK hP (by omega) dX0_fillColumn_5 ?_
    refine lv_astore (lv' := [(5, .ref (A (20 + n))), (0, .ref (A 18)), (1, .ref (A 11)), (2, .int (nI n)), (3, .ref (A 16)), (4, .int (nI j))]) hxx hbb dX0_fillColumn_6 hl (by decide) rfl (fun ls hl => ?_)
    refine lv_aload_n hxx hbb dX0_fillColumn_8 rfl (lv_at hl 2 rfl) ?_
    refine zgX0_53 S hK hP 11 (by decide) zk_11 dX0_fillColumn_9 ?_
    refine lv_iload_n hxx hbb dX0_fillColumn_12 rfl (lv_at hl 3 rfl) ?_
    refine zaldN S hK hP 15 24 (by decide) zk_15 zl_15 (by omega) (v := nI 0) (g4) dX0_fillColumn_13 ?_
    refine lv_istore (lv' := [(6, .int (nI 0)), (5, .ref (A (20 + n))), (0, .ref (A 18)), (1, .ref (A 11)), (2, .int (nI n)), (3, .ref (A 16)), (4, .int (nI j))]) hxx hbb dX0_fillColumn_14 hl (by decide) rfl (fun ls hl => ?_)
    refine lv_aload_n hxx hbb dX0_fillColumn_16 rfl (lv_at hl 3 rfl) ?_
    refine zgX0_56 S hK hP 11 (by decide) zk_11 dX0_fillColumn_17 ?_
    refine lv_iload_n hxx hbb dX0_fillColumn_20 rfl (lv_at hl 4 rfl) ?_
    refine zaldN S hK hP 12 24 (by decide) zk_12 zl_12 (by omega) (v := nI 4) (g1) dX0_fillColumn_21 ?_
    refine zif_ne (tgt := 37) S (by omega) dX0_fillColumn_22 (by decide) (fun c_25 => ?_) (fun c_25 => ?_)
    · skip
      refine lv_aload_n hxx hbb dX0_fillColumn_37 rfl (lv_at hl 2 rfl) ?_
      refine zgX0_13 S hK hP 18 (by decide) zk_18 dX0_fillColumn_38 ?_
      refine lv_aload_n hxx hbb dX0_fillColumn_41 rfl (lv_at hl 3 rfl) ?_
      refine zgX0_63 S hK hP 11 (by decide) zk_11 dX0_fillColumn_42 ?_
      refine lv_iload_n hxx hbb dX0_fillColumn_45 rfl (lv_at hl 4 rfl) ?_
      refine zaldN S hK hP 13 24 (by decide) zk_13 zl_13 (by omega) (v := nI (lf n)) (g2) dX0_fillColumn_46 ?_
      refine lv_iload_n hxx hbb dX0_fillColumn_47 rfl (lv_at hl 4 rfl) ?_
      refine ZI.callS S hK hP hS hB (kX0_operand l G A Y (nI (lf n)) n (by omega)) zwX0_66 zdX0_operand rfl ⟨Nat.le_trans (by decide) hfr, Nat.le_trans (by decide) hlo⟩ rfl (Nat.le_of_ble_eq_true rfl) hl.1 dX0_fillColumn_48 ⟨Nat.zero_le _, Nat.zero_le _⟩ (fun r_26 Y_27 H locs hq_28 hP hS => ?_)
      obtain ⟨hr9, hY9⟩ := hq_28
      rw [hY9] at hP
      have hr9 := hr9.trans (cOp_nat (by omega) (by omega))
      subst hr9
      refine zaldq19 S hK hP (by omega) dX0_fillColumn_51 ?_
      refine lv_astore (lv' := [(7, .ref (A (20 + (lf n)))), (6, .int (nI 0)), (5, .ref (A (20 + n))), (0, .ref (A 18)), (1, .ref (A 11)), (2, .int (nI n)), (3, .ref (A 16)), (4, .int (nI j))]) hxx hbb dX0_fillColumn_52 hl (by decide) rfl (fun ls hl => ?_)
      refine lv_aload_n hxx hbb dX0_fillColumn_54 rfl (lv_at hl 3 rfl) ?_
      refine zgX0_13 S hK hP 18 (by decide) zk_18 dX0_fillColumn_55 ?_
      refine lv_aload_n hxx hbb dX0_fillColumn_58 rfl (lv_at hl 4 rfl) ?_
      refine zgX0_69 S hK hP 11 (by decide) zk_11 dX0_fillColumn_59 ?_
      refine lv_iload_n hxx hbb dX0_fillColumn_62 rfl (lv_at hl 5 rfl) ?_
      refine zaldN S hK hP 14 24 (by decide) zk_14 zl_14 (by omega) (v := -1) (g3) dX0_fillColumn_63 ?_
      refine lv_iload_n hxx hbb dX0_fillColumn_64 rfl (lv_at hl 5 rfl) ?_
      refine ZI.callS S hK hP hS hB (kX0_operand l G A Y (-1) n (by omega)) zwX0_66 zdX0_operand rfl ⟨Nat.le_trans (by decide) hfr, Nat.le_trans (by decide) hlo⟩ rfl (Nat.le_of_ble_eq_true rfl) hl.1 dX0_fillColumn_65 ⟨Nat.zero_le _, Nat.zero_le _⟩ (fun r_29 Y_30 H locs hq_31 hP hS => ?_)
      obtain ⟨hr9, hY9⟩ := hq_31
      rw [hY9] at hP
      have hr9 := hr9.trans cOp_neg
      subst hr9
      refine zaldq19 S hK hP (by omega) dX0_fillColumn_68 ?_
      refine lv_astore (lv' := [(8, .ref (A (20 + 0))), (7, .ref (A (20 + (lf n)))), (6, .int (nI 0)), (5, .ref (A (20 + n))), (0, .ref (A 18)), (1, .ref (A 11)), (2, .int (nI n)), (3, .ref (A 16)), (4, .int (nI j))]) hxx hbb dX0_fillColumn_69 hl (by decide) rfl (fun ls hl => ?_)
      refine lv_aload_n hxx hbb dX0_fillColumn_71 rfl (lv_at hl 5 rfl) ?_
      refine zgX0_56 S hK hP 11 (by decide) zk_11 dX0_fillColumn_72 ?_
      refine lv_iload_n hxx hbb dX0_fillColumn_75 rfl (lv_at hl 6 rfl) ?_
      refine zaldN S hK hP 12 24 (by decide) zk_12 zl_12 (by omega) (v := nI 4) (g1) dX0_fillColumn_76 ?_
      refine ztabIn S (k := 4) (off := 97) (tgt := 174) rfl dX0_fillColumn_77 (by decide) (by decide) rfl (by decide) ?_
      refine lv_aload_n hxx hbb dX0_fillColumn_174 rfl (lv_at hl 4 rfl) ?_
      refine lv_aload hxx hbb dX0_fillColumn_175 (lv_at hl 1 rfl) ?_
      refine lv_iload hxx hbb dX0_fillColumn_177 (lv_at hl 8 rfl) ?_
      refine ZV.callV S hK hP hS hB (kX0_fillChains l G A Y (lf n) j ((cCost kd lf rt tx ad mi wr) (lf n)) (by omega) (by omega) (fun i k h1 h2 => ⟨hop (lf n) (by omega) i k h1 (by omega), hCle (lf n) (by omega) i k (by omega)⟩) (fun i k h1 h2 f1 f2 => pl_sum hwf hsz had hmi hn (by omega) h1 h2 (by omega) f1 f2)) zwX0_87 zdX0_fillChains rfl ⟨Nat.le_trans (by decide) hfr, Nat.le_trans (by decide) hlo⟩ (by decide) (zcK4 zk_18) rfl rfl (Nat.le_of_ble_eq_true rfl) hl.1 dX0_fillColumn_179 ⟨Nat.zero_le _, Nat.zero_le _⟩ (fun Y_33 H locs hq_34 hP hS => ?_)
      have hc9 := hq_34
      refine lv_aload_n hxx hbb dX0_fillColumn_182 rfl (lv_at hl 4 rfl) ?_
      refine lv_aload hxx hbb dX0_fillColumn_183 (lv_at hl 3 rfl) ?_
      refine lv_aload_n hxx hbb dX0_fillColumn_185 rfl (lv_at hl 5 rfl) ?_
      refine zgX0_56 S hK hP 11 (by decide) zk_11 dX0_fillColumn_186 ?_
      refine lv_iload_n hxx hbb dX0_fillColumn_189 rfl (lv_at hl 6 rfl) ?_
      refine zaldN S hK hP 12 24 (by decide) zk_12 zl_12 (by omega) (v := nI 4) ((congrFun (hc9.1 12 (by decide)) _).trans g1) dX0_fillColumn_190 ?_
      refine lv_iconst (v := nI 4) hxx hbb dX0_fillColumn_191 (by decide) ?_
      refine zcmp_ne (tgt := 199) S (by omega) (by omega) dX0_fillColumn_192 (by decide) (fun c_35 => ?_) (fun c_35 => ?_)
      · skip
        exact absurd c_35 (by decide)
      · skip
        refine lv_iconst (v := nI 1) hxx hbb dX0_fillColumn_195 (by decide) ?_
        refine lv_goto (tgt := 200) hxx hbb dX0_fillColumn_196 (by decide) ?_
        refine lv_iload hxx hbb dX0_fillColumn_200 (lv_at hl 8 rfl) ?_
        refine ZV.callV S hK hP hS hB (kX0_fillRepeated l G A Y_33 n 1 j ad (cPl ((cCost kd lf rt tx ad mi wr) (lf n))) (by omega) (by omega) (by omega) had ((congrFun (hc9.1 18 (by decide)) 3).trans h3) hc9.2) zwX0_91 zdX0_fillRepeated rfl ⟨Nat.le_trans (by decide) hfr, Nat.le_trans (by decide) hlo⟩ (by decide) (zcK4 zk_18) rfl rfl (Nat.le_of_ble_eq_true rfl) hl.1 dX0_fillColumn_202 ⟨Nat.zero_le _, Nat.zero_le _⟩ (fun Y_37 H locs hq_38 hP hS => ?_)
        have hF := hq_38
        exact hret _ _ _ _ _ dX0_fillColumn_205 hP hS (CF.fin2 hc9.1 (by omega) hF (fun a => by rw [if_pos (by decide)]; exact cc3 hwf hn hk))
    · skip
      exact absurd c_25 (by decide)
  · skip
    have g1 : Y 12 n = nI 5 := hn1.trans (by rw [hkk])
    have g2 : Y 13 n = nI (lf n) := hn2.trans (if_neg (by omega))
    have g4 : Y 15 n = nI 0 := hn4.trans (by rw [if_neg (by omega), if_neg (by omega)])
    have g3 : Y 14 n = -1 := hn3.trans (if_neg (by omega))
    refine lv_aload_n hxx hbb dX0_fillColumn_0 rfl (lv_at hl 0 rfl) ?_
    refine zgX0_13 S hK hP 18 (by decide) zk_18 dX0_fillColumn_1 ?_
    refine lv_iload_n hxx hbb dX0_fillColumn_4 rfl (lv_at hl 2 rfl) ?_
    refine zaldq19 S hK hP (by omega) dX0_fillColumn_5 ?_
    refine lv_astore (lv' := [(5, .ref (A (20 + n))), (0, .ref (A 18)), (1, .ref (A 11)), (2, .int (nI n)), (3, .ref (A 16)), (4, .int (nI j))]) hxx hbb dX0_fillColumn_6 hl (by decide) rfl (fun ls hl => ?_)
    refine lv_aload_n hxx hbb dX0_fillColumn_8 rfl (lv_at hl 2 rfl) ?_
    refine zgX0_53 S hK hP 11 (by decide) zk_11 dX0_fillColumn_9 ?_
    refine lv_iload_n hxx hbb dX0_fillColumn_12 rfl (lv_at hl 3 rfl) ?_
    refine zaldN S hK hP 15 24 (by decide) zk_15 zl_15 (by omega) (v := nI 0) (g4) dX0_fillColumn_13 ?_
    refine lv_istore (lv' := [(6, .int (nI 0)), (5, .ref (A (20 + n))), (0, .ref (A 18)), (1, .ref (A 11)), (2, .int (nI n)), (3, .ref (A 16)), (4, .int (nI j))]) hxx hbb dX0_fillColumn_14 hl (by decide) rfl (fun ls hl => ?_)
    refine lv_aload_n hxx hbb dX0_fillColumn_16 rfl (lv_at hl 3 rfl) ?_
    refine zgX0_56 S hK hP 11 (by decide) zk_11 dX0_fillColumn_17 ?_
    refine lv_iload_n hxx hbb dX0_fillColumn_20 rfl (lv_at hl 4 rfl) ?_
    refine zaldN S hK hP 12 24 (by decide) zk_12 zl_12 (by omega) (v := nI 5) (g1) dX0_fillColumn_21 ?_
    refine zif_ne (tgt := 37) S (by omega) dX0_fillColumn_22 (by decide) (fun c_39 => ?_) (fun c_39 => ?_)
    · skip
      refine lv_aload_n hxx hbb dX0_fillColumn_37 rfl (lv_at hl 2 rfl) ?_
      refine zgX0_13 S hK hP 18 (by decide) zk_18 dX0_fillColumn_38 ?_
      refine lv_aload_n hxx hbb dX0_fillColumn_41 rfl (lv_at hl 3 rfl) ?_
      refine zgX0_63 S hK hP 11 (by decide) zk_11 dX0_fillColumn_42 ?_
      refine lv_iload_n hxx hbb dX0_fillColumn_45 rfl (lv_at hl 4 rfl) ?_
      refine zaldN S hK hP 13 24 (by decide) zk_13 zl_13 (by omega) (v := nI (lf n)) (g2) dX0_fillColumn_46 ?_
      refine lv_iload_n hxx hbb dX0_fillColumn_47 rfl (lv_at hl 4 rfl) ?_
      refine ZI.callS S hK hP hS hB (kX0_operand l G A Y (nI (lf n)) n (by omega)) zwX0_66 zdX0_operand rfl ⟨Nat.le_trans (by decide) hfr, Nat.le_trans (by decide) hlo⟩ rfl (Nat.le_of_ble_eq_true rfl) hl.1 dX0_fillColumn_48 ⟨Nat.zero_le _, Nat.zero_le _⟩ (fun r_40 Y_41 H locs hq_42 hP hS => ?_)
      obtain ⟨hr9, hY9⟩ := hq_42
      rw [hY9] at hP
      have hr9 := hr9.trans (cOp_nat (by omega) (by omega))
      subst hr9
      refine zaldq19 S hK hP (by omega) dX0_fillColumn_51 ?_
      refine lv_astore (lv' := [(7, .ref (A (20 + (lf n)))), (6, .int (nI 0)), (5, .ref (A (20 + n))), (0, .ref (A 18)), (1, .ref (A 11)), (2, .int (nI n)), (3, .ref (A 16)), (4, .int (nI j))]) hxx hbb dX0_fillColumn_52 hl (by decide) rfl (fun ls hl => ?_)
      refine lv_aload_n hxx hbb dX0_fillColumn_54 rfl (lv_at hl 3 rfl) ?_
      refine zgX0_13 S hK hP 18 (by decide) zk_18 dX0_fillColumn_55 ?_
      refine lv_aload_n hxx hbb dX0_fillColumn_58 rfl (lv_at hl 4 rfl) ?_
      refine zgX0_69 S hK hP 11 (by decide) zk_11 dX0_fillColumn_59 ?_
      refine lv_iload_n hxx hbb dX0_fillColumn_62 rfl (lv_at hl 5 rfl) ?_
      refine zaldN S hK hP 14 24 (by decide) zk_14 zl_14 (by omega) (v := -1) (g3) dX0_fillColumn_63 ?_
      refine lv_iload_n hxx hbb dX0_fillColumn_64 rfl (lv_at hl 5 rfl) ?_
      refine ZI.callS S hK hP hS hB (kX0_operand l G A Y (-1) n (by omega)) zwX0_66 zdX0_operand rfl ⟨Nat.le_trans (by decide) hfr, Nat.le_trans (by decide) hlo⟩ rfl (Nat.le_of_ble_eq_true rfl) hl.1 dX0_fillColumn_65 ⟨Nat.zero_le _, Nat.zero_le _⟩ (fun r_43 Y_44 H locs hq_45 hP hS => ?_)
      obtain ⟨hr9, hY9⟩ := hq_45
      rw [hY9] at hP
      have hr9 := hr9.trans cOp_neg
      subst hr9
      refine zaldq19 S hK hP (by omega) dX0_fillColumn_68 ?_
      refine lv_astore (lv' := [(8, .ref (A (20 + 0))), (7, .ref (A (20 + (lf n)))), (6, .int (nI 0)), (5, .ref (A (20 + n))), (0, .ref (A 18)), (1, .ref (A 11)), (2, .int (nI n)), (3, .ref (A 16)), (4, .int (nI j))]) hxx hbb dX0_fillColumn_69 hl (by decide) rfl (fun ls hl => ?_)
      refine lv_aload_n hxx hbb dX0_fillColumn_71 rfl (lv_at hl 5 rfl) ?_
      refine zgX0_56 S hK hP 11 (by decide) zk_11 dX0_fillColumn_72 ?_
      refine lv_iload_n hxx hbb dX0_fillColumn_75 rfl (lv_at hl 6 rfl) ?_
      refine zaldN S hK hP 12 24 (by decide) zk_12 zl_12 (by omega) (v := nI 5) (g1) dX0_fillColumn_76 ?_
      refine ztabIn S (k := 5) (off := 97) (tgt := 174) rfl dX0_fillColumn_77 (by decide) (by decide) rfl (by decide) ?_
      refine lv_aload_n hxx hbb dX0_fillColumn_174 rfl (lv_at hl 4 rfl) ?_
      refine lv_aload hxx hbb dX0_fillColumn_175 (lv_at hl 1 rfl) ?_
      refine lv_iload hxx hbb dX0_fillColumn_177 (lv_at hl 8 rfl) ?_
      refine ZV.callV S hK hP hS hB (kX0_fillChains l G A Y (lf n) j ((cCost kd lf rt tx ad mi wr) (lf n)) (by omega) (by omega) (fun i k h1 h2 => ⟨hop (lf n) (by omega) i k h1 (by omega), hCle (lf n) (by omega) i k (by omega)⟩) (fun i k h1 h2 f1 f2 => pl_sum hwf hsz had hmi hn (by omega) h1 h2 (by omega) f1 f2)) zwX0_87 zdX0_fillChains rfl ⟨Nat.le_trans (by decide) hfr, Nat.le_trans (by decide) hlo⟩ (by decide) (zcK4 zk_18) rfl rfl (Nat.le_of_ble_eq_true rfl) hl.1 dX0_fillColumn_179 ⟨Nat.zero_le _, Nat.zero_le _⟩ (fun Y_47 H locs hq_48 hP hS => ?_)
      have hc9 := hq_48
      refine lv_aload_n hxx hbb dX0_fillColumn_182 rfl (lv_at hl 4 rfl) ?_
      refine lv_aload hxx hbb dX0_fillColumn_183 (lv_at hl 3 rfl) ?_
      refine lv_aload_n hxx hbb dX0_fillColumn_185 rfl (lv_at hl 5 rfl) ?_
      refine zgX0_56 S hK hP 11 (by decide) zk_11 dX0_fillColumn_186 ?_
      refine lv_iload_n hxx hbb dX0_fillColumn_189 rfl (lv_at hl 6 rfl) ?_
      refine zaldN S hK hP 12 24 (by decide) zk_12 zl_12 (by omega) (v := nI 5) ((congrFun (hc9.1 12 (by decide)) _).trans g1) dX0_fillColumn_190 ?_
      refine lv_iconst (v := nI 4) hxx hbb dX0_fillColumn_191 (by decide) ?_
      refine zcmp_ne (tgt := 199) S (by omega) (by omega) dX0_fillColumn_192 (by decide) (fun c_49 => ?_) (fun c_49 => ?_)
      · skip
        refine lv_iconst (v := nI 0) hxx hbb dX0_fillColumn_199 (by decide) ?_
        refine lv_iload hxx hbb dX0_fillColumn_200 (lv_at hl 8 rfl) ?_
        refine ZV.callV S hK hP hS hB (kX0_fillRepeated l G A Y_47 n 0 j ad (cPl ((cCost kd lf rt tx ad mi wr) (lf n))) (by omega) (by omega) (by omega) had ((congrFun (hc9.1 18 (by decide)) 3).trans h3) hc9.2) zwX0_91 zdX0_fillRepeated rfl ⟨Nat.le_trans (by decide) hfr, Nat.le_trans (by decide) hlo⟩ (by decide) (zcK4 zk_18) rfl rfl (Nat.le_of_ble_eq_true rfl) hl.1 dX0_fillColumn_202 ⟨Nat.zero_le _, Nat.zero_le _⟩ (fun Y_51 H locs hq_52 hP hS => ?_)
        have hF := hq_52
        exact hret _ _ _ _ _ dX0_fillColumn_205 hP hS (CF.fin2 hc9.1 (by omega) hF (fun a => by rw [if_neg (by decide)]; exact cc4 hwf hn hk))
      · skip
        exact absurd c_49 (by decide)
    · skip
      exact absurd c_39 (by decide)
  · skip
    have g1 : Y 12 n = nI 3 := hn1.trans (by rw [hkk])
    have g2 : Y 13 n = nI (lf n) := hn2.trans (if_neg (by omega))
    have g4 : Y 15 n = nI 0 := hn4.trans (by rw [if_neg (by omega), if_neg (by omega)])
    have g3 : Y 14 n = -1 := hn3.trans (if_neg (by omega))
    refine lv_aload_n hxx hbb dX0_fillColumn_0 rfl (lv_at hl 0 rfl) ?_
    refine zgX0_13 S hK hP 18 (by decide) zk_18 dX0_fillColumn_1 ?_
    refine lv_iload_n hxx hbb dX0_fillColumn_4 rfl (lv_at hl 2 rfl) ?_
    refine zaldq19 S hK hP (by omega) dX0_fillColumn_5 ?_
    refine lv_astore (lv' := [(5, .ref (A (20 + n))), (0, .ref (A 18)), (1, .ref (A 11)), (2, .int (nI n)), (3, .ref (A 16)), (4, .int (nI j))]) hxx hbb dX0_fillColumn_6 hl (by decide) rfl (fun ls hl => ?_)
    refine lv_aload_n hxx hbb dX0_fillColumn_8 rfl (lv_at hl 2 rfl) ?_
    refine zgX0_53 S hK hP 11 (by decide) zk_11 dX0_fillColumn_9 ?_
    refine lv_iload_n hxx hbb dX0_fillColumn_12 rfl (lv_at hl 3 rfl) ?_
    refine zaldN S hK hP 15 24 (by decide) zk_15 zl_15 (by omega) (v := nI 0) (g4) dX0_fillColumn_13 ?_
    refine lv_istore (lv' := [(6, .int (nI 0)), (5, .ref (A (20 + n))), (0, .ref (A 18)), (1, .ref (A 11)), (2, .int (nI n)), (3, .ref (A 16)), (4, .int (nI j))]) hxx hbb dX0_fillColumn_14 hl (by decide) rfl (fun ls hl => ?_)
    refine lv_aload_n hxx hbb dX0_fillColumn_16 rfl (lv_at hl 3 rfl) ?_
    refine zgX0_56 S hK hP 11 (by decide) zk_11 dX0_fillColumn_17 ?_
    refine lv_iload_n hxx hbb dX0_fillColumn_20 rfl (lv_at hl 4 rfl) ?_
    refine zaldN S hK hP 12 24 (by decide) zk_12 zl_12 (by omega) (v := nI 3) (g1) dX0_fillColumn_21 ?_
    refine zif_ne (tgt := 37) S (by omega) dX0_fillColumn_22 (by decide) (fun c_53 => ?_) (fun c_53 => ?_)
    · skip
      refine lv_aload_n hxx hbb dX0_fillColumn_37 rfl (lv_at hl 2 rfl) ?_
      refine zgX0_13 S hK hP 18 (by decide) zk_18 dX0_fillColumn_38 ?_
      refine lv_aload_n hxx hbb dX0_fillColumn_41 rfl (lv_at hl 3 rfl) ?_
      refine zgX0_63 S hK hP 11 (by decide) zk_11 dX0_fillColumn_42 ?_
      refine lv_iload_n hxx hbb dX0_fillColumn_45 rfl (lv_at hl 4 rfl) ?_
      refine zaldN S hK hP 13 24 (by decide) zk_13 zl_13 (by omega) (v := nI (lf n)) (g2) dX0_fillColumn_46 ?_
      refine lv_iload_n hxx hbb dX0_fillColumn_47 rfl (lv_at hl 4 rfl) ?_
      refine ZI.callS S hK hP hS hB (kX0_operand l G A Y (nI (lf n)) n (by omega)) zwX0_66 zdX0_operand rfl ⟨Nat.le_trans (by decide) hfr, Nat.le_trans (by decide) hlo⟩ rfl (Nat.le_of_ble_eq_true rfl) hl.1 dX0_fillColumn_48 ⟨Nat.zero_le _, Nat.zero_le _⟩ (fun r_54 Y_55 H locs hq_56 hP hS => ?_)
      obtain ⟨hr9, hY9⟩ := hq_56
      rw [hY9] at hP
      have hr9 := hr9.trans (cOp_nat (by omega) (by omega))
      subst hr9
      refine zaldq19 S hK hP (by omega) dX0_fillColumn_51 ?_
      refine lv_astore (lv' := [(7, .ref (A (20 + (lf n)))), (6, .int (nI 0)), (5, .ref (A (20 + n))), (0, .ref (A 18)), (1, .ref (A 11)), (2, .int (nI n)), (3, .ref (A 16)), (4, .int (nI j))]) hxx hbb dX0_fillColumn_52 hl (by decide) rfl (fun ls hl => ?_)
      refine lv_aload_n hxx hbb dX0_fillColumn_54 rfl (lv_at hl 3 rfl) ?_
      refine zgX0_13 S hK hP 18 (by decide) zk_18 dX0_fillColumn_55 ?_
      refine lv_aload_n hxx hbb dX0_fillColumn_58 rfl (lv_at hl 4 rfl) ?_
      refine zgX0_69 S hK hP 11 (by decide) zk_11 dX0_fillColumn_59 ?_
      refine lv_iload_n hxx hbb dX0_fillColumn_62 rfl (lv_at hl 5 rfl) ?_
      refine zaldN S hK hP 14 24 (by decide) zk_14 zl_14 (by omega) (v := -1) (g3) dX0_fillColumn_63 ?_
      refine lv_iload_n hxx hbb dX0_fillColumn_64 rfl (lv_at hl 5 rfl) ?_
      refine ZI.callS S hK hP hS hB (kX0_operand l G A Y (-1) n (by omega)) zwX0_66 zdX0_operand rfl ⟨Nat.le_trans (by decide) hfr, Nat.le_trans (by decide) hlo⟩ rfl (Nat.le_of_ble_eq_true rfl) hl.1 dX0_fillColumn_65 ⟨Nat.zero_le _, Nat.zero_le _⟩ (fun r_57 Y_58 H locs hq_59 hP hS => ?_)
      obtain ⟨hr9, hY9⟩ := hq_59
      rw [hY9] at hP
      have hr9 := hr9.trans cOp_neg
      subst hr9
      refine zaldq19 S hK hP (by omega) dX0_fillColumn_68 ?_
      refine lv_astore (lv' := [(8, .ref (A (20 + 0))), (7, .ref (A (20 + (lf n)))), (6, .int (nI 0)), (5, .ref (A (20 + n))), (0, .ref (A 18)), (1, .ref (A 11)), (2, .int (nI n)), (3, .ref (A 16)), (4, .int (nI j))]) hxx hbb dX0_fillColumn_69 hl (by decide) rfl (fun ls hl => ?_)
      refine lv_aload_n hxx hbb dX0_fillColumn_71 rfl (lv_at hl 5 rfl) ?_
      refine zgX0_56 S hK hP 11 (by decide) zk_11 dX0_fillColumn_72 ?_
      refine lv_iload_n hxx hbb dX0_fillColumn_75 rfl (lv_at hl 6 rfl) ?_
      refine zaldN S hK hP 12 24 (by decide) zk_12 zl_12 (by omega) (v := nI 3) (g1) dX0_fillColumn_76 ?_
      refine ztabIn S (k := 3) (off := 69) (tgt := 146) rfl dX0_fillColumn_77 (by decide) (by decide) rfl (by decide) ?_
      refine lv_aload_n hxx hbb dX0_fillColumn_146 rfl (lv_at hl 4 rfl) ?_
      refine lv_aload hxx hbb dX0_fillColumn_147 (lv_at hl 3 rfl) ?_
      refine lv_aload hxx hbb dX0_fillColumn_149 (lv_at hl 1 rfl) ?_
      refine lv_iload hxx hbb dX0_fillColumn_151 (lv_at hl 8 rfl) ?_
      refine ZV.callV S hK hP hS hB (kX0_fillMaybe l G A Y n (lf n) j ad ((cCost kd lf rt tx ad mi wr) (lf n)) (by omega) (by omega) (by omega) (by omega) had h3 (fun i k h1 h2 => ⟨hop (lf n) (by omega) i k h1 (by omega), hCle (lf n) (by omega) i k (by omega)⟩)) zwX0_79 zdX0_fillMaybe rfl ⟨Nat.le_trans (by decide) hfr, Nat.le_trans (by decide) hlo⟩ (by decide) (zcK4 zk_18) rfl rfl (Nat.le_of_ble_eq_true rfl) hl.1 dX0_fillColumn_153 ⟨Nat.zero_le _, Nat.zero_le _⟩ (fun Y_61 H locs hq_62 hP hS => ?_)
      have hF := hq_62
      refine lv_goto (tgt := 205) hxx hbb dX0_fillColumn_156 (by decide) ?_
      exact hret _ _ _ _ _ dX0_fillColumn_205 hP hS (CF.fin hF (fun a => cc5 hwf hn hk))
    · skip
      exact absurd c_53 (by decide)
  · skip
    have g1 : Y 12 n = nI 6 := hn1.trans (by rw [hkk])
    have g2 : Y 13 n = nI (lf n) := hn2.trans (if_neg (by omega))
    have g4 : Y 15 n = nI (rt n) := hn4.trans (by rw [if_neg (by omega), if_pos hk])
    have g3 : Y 14 n = -1 := hn3.trans (if_neg (by omega))
    refine lv_aload_n hxx hbb dX0_fillColumn_0 rfl (lv_at hl 0 rfl) ?_
    refine zgX0_13 S hK hP 18 (by decide) zk_18 dX0_fillColumn_1 ?_
    refine lv_iload_n hxx hbb dX0_fillColumn_4 rfl (lv_at hl 2 rfl) ?_
    refine zaldq19 S hK hP (by omega) dX0_fillColumn_5 ?_
    refine lv_astore (lv' := [(5, .ref (A (20 + n))), (0, .ref (A 18)), (1, .ref (A 11)), (2, .int (nI n)), (3, .ref (A 16)), (4, .int (nI j))]) hxx hbb dX0_fillColumn_6 hl (by decide) rfl (fun ls hl => ?_)
    refine lv_aload_n hxx hbb dX0_fillColumn_8 rfl (lv_at hl 2 rfl) ?_
    refine zgX0_53 S hK hP 11 (by decide) zk_11 dX0_fillColumn_9 ?_
    refine lv_iload_n hxx hbb dX0_fillColumn_12 rfl (lv_at hl 3 rfl) ?_
    refine zaldN S hK hP 15 24 (by decide) zk_15 zl_15 (by omega) (v := nI (rt n)) (g4) dX0_fillColumn_13 ?_
    refine lv_istore (lv' := [(6, .int (nI (rt n))), (5, .ref (A (20 + n))), (0, .ref (A 18)), (1, .ref (A 11)), (2, .int (nI n)), (3, .ref (A 16)), (4, .int (nI j))]) hxx hbb dX0_fillColumn_14 hl (by decide) rfl (fun ls hl => ?_)
    refine lv_aload_n hxx hbb dX0_fillColumn_16 rfl (lv_at hl 3 rfl) ?_
    refine zgX0_56 S hK hP 11 (by decide) zk_11 dX0_fillColumn_17 ?_
    refine lv_iload_n hxx hbb dX0_fillColumn_20 rfl (lv_at hl 4 rfl) ?_
    refine zaldN S hK hP 12 24 (by decide) zk_12 zl_12 (by omega) (v := nI 6) (g1) dX0_fillColumn_21 ?_
    refine zif_ne (tgt := 37) S (by omega) dX0_fillColumn_22 (by decide) (fun c_63 => ?_) (fun c_63 => ?_)
    · skip
      refine lv_aload_n hxx hbb dX0_fillColumn_37 rfl (lv_at hl 2 rfl) ?_
      refine zgX0_13 S hK hP 18 (by decide) zk_18 dX0_fillColumn_38 ?_
      refine lv_aload_n hxx hbb dX0_fillColumn_41 rfl (lv_at hl 3 rfl) ?_
      refine zgX0_63 S hK hP 11 (by decide) zk_11 dX0_fillColumn_42 ?_
      refine lv_iload_n hxx hbb dX0_fillColumn_45 rfl (lv_at hl 4 rfl) ?_
      refine zaldN S hK hP 13 24 (by decide) zk_13 zl_13 (by omega) (v := nI (lf n)) (g2) dX0_fillColumn_46 ?_
      refine lv_iload_n hxx hbb dX0_fillColumn_47 rfl (lv_at hl 4 rfl) ?_
      refine ZI.callS S hK hP hS hB (kX0_operand l G A Y (nI (lf n)) n (by omega)) zwX0_66 zdX0_operand rfl ⟨Nat.le_trans (by decide) hfr, Nat.le_trans (by decide) hlo⟩ rfl (Nat.le_of_ble_eq_true rfl) hl.1 dX0_fillColumn_48 ⟨Nat.zero_le _, Nat.zero_le _⟩ (fun r_64 Y_65 H locs hq_66 hP hS => ?_)
      obtain ⟨hr9, hY9⟩ := hq_66
      rw [hY9] at hP
      have hr9 := hr9.trans (cOp_nat (by omega) (by omega))
      subst hr9
      refine zaldq19 S hK hP (by omega) dX0_fillColumn_51 ?_
      refine lv_astore (lv' := [(7, .ref (A (20 + (lf n)))), (6, .int (nI (rt n))), (5, .ref (A (20 + n))), (0, .ref (A 18)), (1, .ref (A 11)), (2, .int (nI n)), (3, .ref (A 16)), (4, .int (nI j))]) hxx hbb dX0_fillColumn_52 hl (by decide) rfl (fun ls hl => ?_)
      refine lv_aload_n hxx hbb dX0_fillColumn_54 rfl (lv_at hl 3 rfl) ?_
      refine zgX0_13 S hK hP 18 (by decide) zk_18 dX0_fillColumn_55 ?_
      refine lv_aload_n hxx hbb dX0_fillColumn_58 rfl (lv_at hl 4 rfl) ?_
      refine zgX0_69 S hK hP 11 (by decide) zk_11 dX0_fillColumn_59 ?_
      refine lv_iload_n hxx hbb dX0_fillColumn_62 rfl (lv_at hl 5 rfl) ?_
      refine zaldN S hK hP 14 24 (by decide) zk_14 zl_14 (by omega) (v := -1) (g3) dX0_fillColumn_63 ?_
      refine lv_iload_n hxx hbb dX0_fillColumn_64 rfl (lv_at hl 5 rfl) ?_
      refine ZI.callS S hK hP hS hB (kX0_operand l G A Y (-1) n (by omega)) zwX0_66 zdX0_operand rfl ⟨Nat.le_trans (by decide) hfr, Nat.le_trans (by decide) hlo⟩ rfl (Nat.le_of_ble_eq_true rfl) hl.1 dX0_fillColumn_65 ⟨Nat.zero_le _, Nat.zero_le _⟩ (fun r_67 Y_68 H locs hq_69 hP hS => ?_)
      obtain ⟨hr9, hY9⟩ := hq_69
      rw [hY9] at hP
      have hr9 := hr9.trans cOp_neg
      subst hr9
      refine zaldq19 S hK hP (by omega) dX0_fillColumn_68 ?_
      refine lv_astore (lv' := [(8, .ref (A (20 + 0))), (7, .ref (A (20 + (lf n)))), (6, .int (nI (rt n))), (5, .ref (A (20 + n))), (0, .ref (A 18)), (1, .ref (A 11)), (2, .int (nI n)), (3, .ref (A 16)), (4, .int (nI j))]) hxx hbb dX0_fillColumn_69 hl (by decide) rfl (fun ls hl => ?_)
      refine lv_aload_n hxx hbb dX0_fillColumn_71 rfl (lv_at hl 5 rfl) ?_
      refine zgX0_56 S hK hP 11 (by decide) zk_11 dX0_fillColumn_72 ?_
      refine lv_iload_n hxx hbb dX0_fillColumn_75 rfl (lv_at hl 6 rfl) ?_
      refine zaldN S hK hP 12 24 (by decide) zk_12 zl_12 (by omega) (v := nI 6) (g1) dX0_fillColumn_76 ?_
      refine ztabIn S (k := 6) (off := 82) (tgt := 159) rfl dX0_fillColumn_77 (by decide) (by decide) rfl (by decide) ?_
      refine lv_aload_n hxx hbb dX0_fillColumn_159 rfl (lv_at hl 4 rfl) ?_
      refine lv_aload hxx hbb dX0_fillColumn_160 (lv_at hl 3 rfl) ?_
      refine lv_aload hxx hbb dX0_fillColumn_162 (lv_at hl 1 rfl) ?_
      refine lv_iload hxx hbb dX0_fillColumn_164 (lv_at hl 2 rfl) ?_
      refine lv_iload hxx hbb dX0_fillColumn_166 (lv_at hl 8 rfl) ?_
      refine ZV.callV S hK hP hS hB (kX0_fillLimit l G A Y n (lf n) (rt n) j ((cCost kd lf rt tx ad mi wr) (lf n)) (by omega) (by omega) (by omega) (by omega) (by omega) (fun i k h1 h2 => ⟨hop (lf n) (by omega) i k h1 (by omega), hCle (lf n) (by omega) i k (by omega)⟩)) zwX0_83 zdX0_fillLimit rfl ⟨Nat.le_trans (by decide) hfr, Nat.le_trans (by decide) hlo⟩ (by decide) (zcK4 zk_18) rfl rfl (Nat.le_of_ble_eq_true rfl) hl.1 dX0_fillColumn_168 ⟨Nat.zero_le _, Nat.zero_le _⟩ (fun Y_71 H locs hq_72 hP hS => ?_)
      have hF := hq_72
      refine lv_goto (tgt := 205) hxx hbb dX0_fillColumn_171 (by decide) ?_
      exact hret _ _ _ _ _ dX0_fillColumn_205 hP hS (CF.fin hF (fun a => cc6 hwf hn hk))
    · skip
      exact absurd c_63 (by decide)

set_option maxHeartbeats 4000000 in
set_option maxRecDepth 100000 in
theorem kX0_learn (l : Launch) (G : zG) (A : Nat → Nat) (Y : zY) (kn : Nat) (nn : Nat) (kd lf rt tx : Nat → Nat) (len ad mi wr : Nat) (sz : Nat → Nat) (hXC : XC Y nn kd lf rt tx len ad mi wr sz) (hXT : XT Y (cCost kd lf rt tx ad mi wr) nn kn) (hkn : kn ≤ len + 1) : ZV l yX0_learn cX0_learn 5 3 77 G A Y [.ref (A 18), .ref (A 11), .ref (A 16)] (fun Y' => LK Y Y' ∧ XT Y' (cCost kd lf rt tx ad mi wr) nn (len + 1)) := by
  refine ZV.enter (by decide) (Nat.le_of_ble_eq_true rfl) ?_
  intro p e s m args below meth c R Q hxx hbb S hK hfr hlo hret H ls hP hS hl
  have hB : ∀ q, zAd A q → zAd A q := fun _ h => h
  have hl : lv_has ls 5 [(0, .ref (A 18)), (1, .ref (A 11)), (2, .ref (A 16))] := hl
  have S : CallFix p m c cX0_learn 5 s args wsL_law RX0 := S
  have hXC9 := hXC
  obtain ⟨hwf, hsz, hlen, had, hmi, hwr, htx, hXP, h16, hYt, h3, h4, h5⟩ := hXC
  have hnn := hwf.1
  have h2 := hXT.1
  refine lv_aload_n hxx hbb dX0_learn_0 rfl (lv_at hl 0 rfl) ?_
  refine zgX0_20 S hK hP 18 (by decide) zk_18 (v := nI kn) (h2) dX0_learn_1 ?_
  refine lv_istore_n (lv' := [(3, .int (nI kn)), (0, .ref (A 18)), (1, .ref (A 11)), (2, .ref (A 16))]) hxx hbb dX0_learn_4 rfl hl (by decide) rfl (fun ls hl => ?_)
  have L_5 : ∀ (N_5 : Nat) (j : Nat) (Y1 : zY) (hj1 : kn ≤ j) (hj : j ≤ len + 1) (hLK : LK Y Y1) (hlow : ∀ m, m < nn → RWc Y1 m ((cCost kd lf rt tx ad mi wr) m) j), len + 1 - j < N_5 → ∀ (H : Heap) (locs : List Loc) (ls : Array Slot), va_P G.1 vwCl (zW G A Y1) H → va_S (zAd A) s.heap H locs → lv_has ls 5 [(0, .ref (A 18)), (1, .ref (A 11)), (2, .ref (A 16)), (3, .int (nI j))] → W p l e R s m args below meth c H locs 0 0 Q (F0 m 5 ls []) := by
    intro N_5
    induction N_5 with
    | zero => intro j Y1 hj1 hj hLK hlow hm; exact absurd hm (Nat.not_lt_zero _)
    | succ N_5 ih_5 =>
      intro j Y1 hj1 hj hLK hlow hm_5 H locs ls hP hS hl
      refine lv_iload_n hxx hbb dX0_learn_5 rfl (lv_at hl 3 rfl) ?_
      refine lv_aload_n hxx hbb dX0_learn_6 rfl (lv_at hl 2 rfl) ?_
      refine zgX0_36 S hK hP 16 (by decide) zk_16 (v := nI len) ((congrFun (hLK.1 16 (by omega) (by omega)) 1).trans h16) dX0_learn_7 ?_
      refine zcmp_gt (tgt := 46) S (by omega) (by omega) dX0_learn_10 (by decide) (fun c_1 => ?_) (fun c_1 => ?_)
      · skip
        refine lv_aload_n hxx hbb dX0_learn_46 rfl (lv_at hl 0 rfl) ?_
        refine lv_aload_n hxx hbb dX0_learn_47 rfl (lv_at hl 2 rfl) ?_
        refine zgX0_36 S hK hP 16 (by decide) zk_16 (v := nI len) ((congrFun (hLK.1 16 (by omega) (by omega)) 1).trans h16) dX0_learn_48 ?_
        refine lv_iconst (v := nI 1) hxx hbb dX0_learn_51 (by decide) ?_
        refine zaddN S dX0_learn_52 ?_
        refine zpX0_20 S hK hP hS hB 18 (by decide) zk_18 dX0_learn_53 (fun H locs hP hS => ?_)
        exact hret _ _ _ _ _ dX0_learn_56 hP hS (⟨hLK.kn, zU_eq, fun m hm a b h1 h2 => (zU_np (by omega)).trans (hlow m hm a b h1 (by omega))⟩)
      · skip
        refine lv_iconst (v := nI 0) hxx hbb dX0_learn_13 (by decide) ?_
        refine lv_istore (lv' := [(4, .int (nI 0)), (0, .ref (A 18)), (1, .ref (A 11)), (2, .ref (A 16)), (3, .int (nI j))]) hxx hbb dX0_learn_14 hl (by decide) rfl (fun ls hl => ?_)
        have L_16 : ∀ (N_16 : Nat) (n : Nat) (Y1 : zY) (hn : n ≤ nn) (hLK : LK Y Y1) (hlow : ∀ m, m < n → RWc Y1 m ((cCost kd lf rt tx ad mi wr) m) (j + 1)) (hhi : ∀ m, n ≤ m → m < nn → RWc Y1 m ((cCost kd lf rt tx ad mi wr) m) j), nn - n < N_16 → ∀ (H : Heap) (locs : List Loc) (ls : Array Slot), va_P G.1 vwCl (zW G A Y1) H → va_S (zAd A) s.heap H locs → lv_has ls 5 [(0, .ref (A 18)), (1, .ref (A 11)), (2, .ref (A 16)), (3, .int (nI j)), (4, .int (nI n))] → W p l e R s m args below meth c H locs 0 0 Q (F0 m 16 ls []) := by
          intro N_16
          induction N_16 with
          | zero => intro n Y1 hn hLK hlow hhi hm; exact absurd hm (Nat.not_lt_zero _)
          | succ N_16 ih_16 =>
            intro n Y1 hn hLK hlow hhi hm_16 H locs ls hP hS hl
            refine lv_iload hxx hbb dX0_learn_16 (lv_at hl 4 rfl) ?_
            refine lv_aload_n hxx hbb dX0_learn_18 rfl (lv_at hl 1 rfl) ?_
            refine zgX0_41 S hK hP 11 (by decide) zk_11 (v := nI nn) ((congrFun (hLK.1 11 (by omega) (by omega)) 4).trans hXP.1) dX0_learn_19 ?_
            refine zcmp_ge (tgt := 40) S (by omega) (by omega) dX0_learn_22 (by decide) (fun c_2 => ?_) (fun c_2 => ?_)
            · skip
              refine lv_iinc (v := nI (j + 1)) (lv' := [(3, .int (nI (j + 1))), (0, .ref (A 18)), (1, .ref (A 11)), (2, .ref (A 16)), (4, .int (nI n))]) hxx hbb dX0_learn_40 hl (k := 3) rfl (zinc1 _) (by decide) rfl (fun ls hl => ?_)
              refine lv_goto (tgt := 5) hxx hbb dX0_learn_43 (by decide) ?_
              exact ih_5 (j + 1) Y1 (by omega) (by omega) hLK (fun m hm => hlow m (by omega)) (by omega) _ _ _ hP hS (lv_sub hl [1, 2, 3, 0] rfl)
            · skip
              refine lv_aload_n hxx hbb dX0_learn_25 rfl (lv_at hl 0 rfl) ?_
              refine lv_aload_n hxx hbb dX0_learn_26 rfl (lv_at hl 1 rfl) ?_
              refine lv_iload hxx hbb dX0_learn_27 (lv_at hl 4 rfl) ?_
              refine lv_aload_n hxx hbb dX0_learn_29 rfl (lv_at hl 2 rfl) ?_
              refine lv_iload_n hxx hbb dX0_learn_30 rfl (lv_at hl 3 rfl) ?_
              refine ZV.callV S hK hP hS hB (kX0_fillColumn l G A Y1 n j nn kd lf rt tx len ad mi wr sz (hXC9.lk hLK) (by omega) (by omega) (fun a ha i k h1 h2 => hlow a ha i k h1 (by omega))) zwX0_44 zdX0_fillColumn rfl ⟨Nat.le_trans (by decide) hfr, Nat.le_trans (by decide) hlo⟩ (by decide) (zcK4 zk_18) rfl rfl (Nat.le_of_ble_eq_true rfl) hl.1 dX0_learn_31 ⟨Nat.zero_le _, Nat.zero_le _⟩ (fun Y_4 H locs hq_5 hP hS => ?_)
              have hfc := hq_5
              refine lv_iinc (v := nI (n + 1)) (lv' := [(4, .int (nI (n + 1))), (0, .ref (A 18)), (1, .ref (A 11)), (2, .ref (A 16)), (3, .int (nI j))]) hxx hbb dX0_learn_34 hl (k := 4) rfl (zinc1 _) (by decide) rfl (fun ls hl => ?_)
              refine lv_goto (tgt := 16) hxx hbb dX0_learn_37 (by decide) ?_
              exact ih_16 (n + 1) Y_4 (by omega) (hLK.fc (by omega) hfc) (fun m hm => (Nat.lt_succ_iff_lt_or_eq.mp hm).elim (fun h => FCp.other hfc (by omega) (by omega) (hlow m h)) (fun e => by rw [e]; exact hfc.row (hhi n (by omega) (by omega)))) (fun m h1 h2 => FCp.other hfc (by omega) (by omega) (hhi m (by omega) h2)) (by omega) _ _ _ hP hS (lv_sub hl [1, 2, 3, 4, 0] rfl)
        exact L_16 (_ + 1) 0 Y1 (by omega) hLK (fun m hm => absurd hm (by omega)) (fun m _ hm => hlow m hm) (Nat.lt_succ_self _) _ _ _ hP hS (lv_sub hl [1, 2, 3, 4, 0] rfl)
  exact L_5 (_ + 1) kn Y (by omega) (by omega) LK.rf hXT.2 (Nat.lt_succ_self _) _ _ _ hP hS (lv_sub hl [1, 2, 3, 0] rfl)

set_option maxHeartbeats 4000000 in
set_option maxRecDepth 100000 in
theorem kX0_ofWhole (l : Launch) (G : zG) (A : Nat → Nat) (Y : zY) (i j kn nn : Nat) (C : Nat → Nat → Nat → Nat) (hn : 1 ≤ nn ∧ nn ≤ 24) (hij : i ≤ j) (hj : j < kn ∧ kn ≤ 25) (hXT : XT Y C nn kn) (h11 : Y 11 4 = nI nn) : ZI l yX0_ofWhole cX0_ofWhole 4 (.int) 1 21 G A Y [.ref (A 18), .ref (A 11), .int (nI i), .int (nI j)] (fun r Y' => r = nI (ci (C (nn - 1) i j)) ∧ Y' = Y) := by
  refine ZI.enter (by decide) (Nat.le_of_ble_eq_true rfl) ?_
  intro p e s m args below meth c R Q hxx hbb S hK hfr hlo hret H ls hP hS hl
  have hB : ∀ q, zAd A q → zAd A q := fun _ h => h
  have hl : lv_has ls 4 [(0, .ref (A 18)), (1, .ref (A 11)), (2, .int (nI i)), (3, .int (nI j))] := hl
  have S : CallFix p m c cX0_ofWhole 4 s args wsL_law RX0 := S
  have h2 := hXT.1
  refine lv_aload_n hxx hbb dX0_ofWhole_0 rfl (lv_at hl 1 rfl) ?_
  refine zgX0_41 S hK hP 11 (by decide) zk_11 (v := nI nn) (h11) dX0_ofWhole_1 ?_
  refine lv_iconst (v := nI 1) hxx hbb dX0_ofWhole_4 (by decide) ?_
  refine zcmp_lt (tgt := 25) S (by omega) (by omega) dX0_ofWhole_5 (by decide) (fun c_1 => ?_) (fun c_1 => ?_)
  · skip
    exfalso; omega
  · skip
    refine lv_iload_n hxx hbb dX0_ofWhole_8 rfl (lv_at hl 2 rfl) ?_
    refine zif_lt S (by omega) dX0_ofWhole_9 ⟨25, by decide⟩ ?_
    refine lv_iload_n hxx hbb dX0_ofWhole_12 rfl (lv_at hl 3 rfl) ?_
    refine lv_iload_n hxx hbb dX0_ofWhole_13 rfl (lv_at hl 2 rfl) ?_
    refine zcmp_lt (tgt := 25) S (by omega) (by omega) dX0_ofWhole_14 (by decide) (fun c_3 => ?_) (fun c_3 => ?_)
    · skip
      exfalso; omega
    · skip
      refine lv_iload_n hxx hbb dX0_ofWhole_17 rfl (lv_at hl 3 rfl) ?_
      refine lv_aload_n hxx hbb dX0_ofWhole_18 rfl (lv_at hl 0 rfl) ?_
      refine zgX0_20 S hK hP 18 (by decide) zk_18 (v := nI kn) (h2) dX0_ofWhole_19 ?_
      refine zcmp_lt (tgt := 28) S (by omega) (by omega) dX0_ofWhole_22 (by decide) (fun c_4 => ?_) (fun c_4 => ?_)
      · skip
        refine lv_aload_n hxx hbb dX0_ofWhole_28 rfl (lv_at hl 0 rfl) ?_
        refine zgX0_13 S hK hP 18 (by decide) zk_18 dX0_ofWhole_29 ?_
        refine lv_aload_n hxx hbb dX0_ofWhole_32 rfl (lv_at hl 1 rfl) ?_
        refine zgX0_41 S hK hP 11 (by decide) zk_11 (v := nI nn) (h11) dX0_ofWhole_33 ?_
        refine lv_iconst (v := nI 1) hxx hbb dX0_ofWhole_36 (by decide) ?_
        refine zsubN S (by omega) dX0_ofWhole_37 ?_
        refine zaldq19 S hK hP (by omega) dX0_ofWhole_38 ?_
        refine lv_iload_n hxx hbb dX0_ofWhole_39 rfl (lv_at hl 2 rfl) ?_
        refine lv_iload_n hxx hbb dX0_ofWhole_40 rfl (lv_at hl 3 rfl) ?_
        refine ZI.callS S hK hP hS hB (kX0_pieceAt l G A Y i j (by omega) (by omega)) zwX0_49 zdX0_pieceAt rfl ⟨Nat.le_trans (by decide) hfr, Nat.le_trans (by decide) hlo⟩ rfl (Nat.le_of_ble_eq_true rfl) hl.1 dX0_ofWhole_41 ⟨Nat.zero_le _, Nat.zero_le _⟩ (fun r_5 Y_6 H locs hq_7 hP hS => ?_)
        obtain ⟨hr9, hY9⟩ := hq_7
        subst hr9; rw [hY9] at hP
        have htr_8 := tri_lt (i := i) (j := j) (by omega) (by omega)
        refine zaldN S hK hP (20 + (nn - 1)) 325 (by omega) (zk_row (by omega)) (zl_row (by omega)) (by omega) (v := nI (ci (C (nn - 1) i j))) (hXT.2 _ (by omega) i j hij (by omega)) dX0_ofWhole_44 ?_
        exact hret _ _ _ _ _ _ dX0_ofWhole_45 (rfl) hP hS (⟨rfl, rfl⟩)
      · skip
        exfalso; omega

set_option maxHeartbeats 4000000 in
set_option maxRecDepth 100000 in
theorem kX0_forget (l : Launch) (G : zG) (A : Nat → Nat) (Y : zY)   : ZV l yX0_forget cX0_forget 1 0 0 G A Y [.ref (A 18)] (fun Y' => Y' = zU Y 18 2 (nI 0)) := by
  refine ZV.enter (by decide) (Nat.le_of_ble_eq_true rfl) ?_
  intro p e s m args below meth c R Q hxx hbb S hK hfr hlo hret H ls hP hS hl
  have hB : ∀ q, zAd A q → zAd A q := fun _ h => h
  have hl : lv_has ls 1 [(0, .ref (A 18))] := hl
  have S : CallFix p m c cX0_forget 1 s args wsL_law RX0 := S
  refine lv_aload_n hxx hbb dX0_forget_0 rfl (lv_at hl 0 rfl) ?_
  refine lv_iconst (v := nI 0) hxx hbb dX0_forget_1 (by decide) ?_
  refine zpX0_20 S hK hP hS hB 18 (by decide) zk_18 dX0_forget_2 (fun H locs hP hS => ?_)
  exact hret _ _ _ _ _ dX0_forget_5 hP hS (rfl)

set_option maxHeartbeats 4000000 in
set_option maxRecDepth 100000 in
theorem kX0_weigh (l : Launch) (G : zG) (A : Nat → Nat) (Y : zY) (x y z : Int32)  : ZV l yX0_weigh cX0_weigh 4 1 20 G A Y [.ref (A 18), .int x, .int y, .int z] (fun Y' => Y' = zU (zU (zU (zU Y 18 3 x) 18 4 y) 18 5 z) 18 2 (nI 0)) := by
  refine ZV.enter (by decide) (Nat.le_of_ble_eq_true rfl) ?_
  intro p e s m args below meth c R Q hxx hbb S hK hfr hlo hret H ls hP hS hl
  have hB : ∀ q, zAd A q → zAd A q := fun _ h => h
  have hl : lv_has ls 4 [(0, .ref (A 18)), (1, .int x), (2, .int y), (3, .int z)] := hl
  have S : CallFix p m c cX0_weigh 4 s args wsL_law RX0 := S
  refine lv_aload_n hxx hbb dX0_weigh_0 rfl (lv_at hl 0 rfl) ?_
  refine lv_iload_n hxx hbb dX0_weigh_1 rfl (lv_at hl 1 rfl) ?_
  refine zpX0_24 S hK hP hS hB 18 (by decide) zk_18 dX0_weigh_2 (fun H locs hP hS => ?_)
  refine lv_aload_n hxx hbb dX0_weigh_5 rfl (lv_at hl 0 rfl) ?_
  refine lv_iload_n hxx hbb dX0_weigh_6 rfl (lv_at hl 2 rfl) ?_
  refine zpX0_27 S hK hP hS hB 18 (by decide) zk_18 dX0_weigh_7 (fun H locs hP hS => ?_)
  refine lv_aload_n hxx hbb dX0_weigh_10 rfl (lv_at hl 0 rfl) ?_
  refine lv_iload_n hxx hbb dX0_weigh_11 rfl (lv_at hl 3 rfl) ?_
  refine zpX0_30 S hK hP hS hB 18 (by decide) zk_18 dX0_weigh_12 (fun H locs hP hS => ?_)
  refine lv_aload_n hxx hbb dX0_weigh_15 rfl (lv_at hl 0 rfl) ?_
  refine ZV.callV S hK hP hS hB (kX0_forget l G A (zU (zU (zU Y 18 3 x) 18 4 y) 18 5 z)) zwX0_33 zdX0_forget rfl ⟨Nat.le_trans (by decide) hfr, Nat.le_trans (by decide) hlo⟩ (by decide) (zcK4 zk_18) rfl rfl (Nat.le_of_ble_eq_true rfl) hl.1 dX0_weigh_16 ⟨Nat.zero_le _, Nat.zero_le _⟩ (fun Y_2 H locs hq_3 hP hS => ?_)
  rw [hq_3] at hP
  exact hret _ _ _ _ _ dX0_weigh_19 hP hS (rfl)
