theorem cSet_le {st : Nat} {tx : Nat → Nat} {ad mi wr i j : Nat} (ha : ad ≤ 9) (hm : mi ≤ 9) (hj : j ≤ 24) : cSet st tx ad mi wr i j ≤ 1000000 := by
  have h1 := c9 (a := j - i) (b := ad) (by omega) ha
  unfold cSet
  split
  · omega
  · by_cases h : mi + (j - i) * ad < (j - i - 1) * ad + (if cFit st tx i (j - i) = 0 then wr else 0)
    · rw [if_pos h]; omega
    · rw [if_neg h]; omega
theorem cRow_le {f g : Nat → Nat → Nat} {i j : Nat} : ∀ n, cRow f g i j n ≤ 1000000
  | 0 => Nat.le_refl _
  | n + 1 => by
    have := cRow_le (f := f) (g := g) (i := i) (j := j) n
    simp only [cRow]; split <;> omega
theorem cPlv_le {f x : Nat → Nat → Nat} {i j : Nat} (h : x i j ≤ 1000000) : ∀ n, cPlv f x i j n ≤ 1000000
  | 0 => h
  | n + 1 => by
    have := cPlv_le (f := f) h n
    simp only [cPlv]; split <;> omega
theorem cPl_le {x : Nat → Nat → Nat} {i j : Nat} (h : x i j ≤ 1000000) : cPl x i j ≤ 1000000 := by rw [cPl_eq]; exact cPlv_le h _
theorem cNode_le {kd lf rt tx : Nat → Nat} {ad mi wr : Nat} {T : Nat → Nat → Nat → Nat} {n i j : Nat} (ha : ad ≤ 9) (hm : mi ≤ 9) (hj : j ≤ 24) (hT : kd n ≠ 0 → T (lf n) i j ≤ 1000000) : cNode kd lf rt tx ad mi wr T n i j ≤ 1000000 := by
  have h9 := c9 (a := j - i) (b := ad) (by omega) ha
  unfold cNode
  split
  · exact cSet_le ha hm hj
  · rename_i h0
    have h := hT h0
    split
    · exact cRow_le _
    · split
      · split <;> omega
      · split
        · split <;> omega
        · split
          · split <;> omega
          · exact cPl_le h
theorem cStar_le {kd : Nat → Nat} {ad v n i j : Nat} (h : v ≤ 1000000) : cStar kd ad v n i j ≤ 1000000 := by
  unfold cStar; split
  · split <;> omega
  · exact h
theorem cCost_le {nn : Nat} {kd lf rt tx : Nat → Nat} {ad mi wr : Nat} (hw : wfN nn kd lf rt) (ha : ad ≤ 9) (hm : mi ≤ 9) {j : Nat} (hj : j ≤ 24) : ∀ n, n < nn → ∀ i, cCost kd lf rt tx ad mi wr n i j ≤ 1000000 := by
  intro n
  induction n using Nat.strongRecOn with
  | ind n ih =>
    intro hn i
    obtain ⟨h1, h2, h3, h4, h5, h6⟩ := hw.2 n hn
    rw [cCost_eq h4 h5]
    exact cStar_le (cNode_le ha hm hj (fun h => ih _ (h4 h) (by have := h4 h; omega) i))
theorem cNode_pl {kd lf rt tx : Nat → Nat} {ad mi wr : Nat} {T : Nat → Nat → Nat → Nat} {n i j : Nat} (h : kd n = 3 ∨ kd n = 4) : cNode kd lf rt tx ad mi wr T n i j = cPl (T (lf n)) i j := by
  unfold cNode
  rw [if_neg (by omega), if_neg (by omega), if_neg (by omega), if_neg (by omega), if_neg (by omega)]
/-- only the table of costs, and the sign that it is known, have changed -/
def MK (Y Z : zY) : Prop := (∀ q, q ≠ 113 → q ≠ 102 → Z q = Y q) ∧ ∀ k, k ≠ 21 → Z 102 k = Y 102 k
theorem MK.rf {Y : zY} : MK Y Y := ⟨fun _ _ _ => rfl, fun _ _ => rfl⟩
theorem MK.trans {X Y Z : zY} (h : MK X Y) (h2 : MK Y Z) : MK X Z := ⟨fun q a b => (h2.1 q a b).trans (h.1 q a b), fun k a => (h2.2 k a).trans (h.2 k a)⟩
theorem MK.put {Y Z : zY} {j : Nat} {v : Int32} (h : MK Y Z) : MK Y (zU Z 113 j v) := ⟨fun q a b => (zU_row a).trans (h.1 q a b), fun k a => (zU_np (by decide)).trans (h.2 k a)⟩
theorem MK.known {Y : zY} {v : Int32} : MK Y (zU Y 102 21 v) := ⟨fun q _ b => zU_row b, fun k a => zU_nj a⟩
theorem MC.keep {Y Z : zY} {nn : Nat} {kd lf rt tx : Nat → Nat} {len ad mi wr : Nat} (h : MC Y nn kd lf rt tx len ad mi wr) (k : MK Y Z) : MC Z nn kd lf rt tx len ad mi wr := by
  obtain ⟨a1, a2, a3, a4, a5, a6, a7, a8, a9, b1, b2, b3, b4⟩ := h
  refine ⟨a1, a2, a3, a4, a5, a6, ?_, ?_, ?_, ?_, ?_, ?_, ?_⟩
  · rw [k.2 2 (by decide)]; exact a7
  · rw [k.2 19 (by decide)]; exact a8
  · rw [k.2 15 (by decide)]; exact a9
  · rw [k.2 16 (by decide)]; exact b1
  · rw [k.2 17 (by decide)]; exact b2
  · rw [k.1 112 (by decide) (by decide)]; exact b3
  · rw [k.1 104 (by decide) (by decide), k.1 105 (by decide) (by decide), k.1 106 (by decide) (by decide)]; exact b4
/-- the table holds C for all nodes before n; for node n, W; for node n, V in the cells that come before (i, j) -/
def TBn (Y : zY) (C : Nat → Nat → Nat → Nat) (len n : Nat) : Prop := ∀ a, a < n → ∀ i j, i ≤ j → j ≤ len → Y 113 (625 * a + 25 * i + j) = nI (C a i j)
def TBx (Y : zY) (W : Nat → Nat → Nat) (len n : Nat) : Prop := ∀ i j, i ≤ j → j ≤ len → Y 113 (625 * n + 25 * i + j) = nI (W i j)
def TBd (Y : zY) (V : Nat → Nat → Nat) (len n i j : Nat) : Prop := ∀ a b, a ≤ b → b ≤ len → (a < i ∨ (a = i ∧ b < j)) → Y 113 (625 * n + 25 * a + b) = nI (V a b)
def mx (S V : Nat → Nat → Nat) (i j : Nat) : Nat → Nat → Nat := fun a b => if a < i ∨ (a = i ∧ b < j) then S a b else V a b
theorem TBn.put {Y : zY} {C : Nat → Nat → Nat → Nat} {len n i j : Nat} {v : Int32} (h : TBn Y C len n) (hl : len ≤ 24) (hi : i ≤ 24) (hj : j ≤ 24) : TBn (zU Y 113 (625 * n + 25 * i + j) v) C len n := fun a ha i' j' h1 h2 => (zU_nj (by omega)).trans (h a ha i' j' h1 h2)
theorem TBd.put {Y : zY} {V : Nat → Nat → Nat} {len n i j : Nat} (h : TBd Y V len n i j) (hl : len ≤ 24) (hi : i ≤ 24) (hj : j ≤ 24) : TBd (zU Y 113 (625 * n + 25 * i + j) (nI (V i j))) V len n i (j + 1) := by
  intro a b h1 h2 h3
  by_cases e : a = i ∧ b = j
  · obtain ⟨rfl, rfl⟩ := e
    exact zU_eq
  · exact (zU_nj (by omega)).trans (h a b h1 h2 (by omega))
theorem TBx.put {Y : zY} {S V : Nat → Nat → Nat} {len n i j : Nat} (h : TBx Y (mx S V i j) len n) (hl : len ≤ 24) (hi : i ≤ 24) (hj : j ≤ 24) : TBx (zU Y 113 (625 * n + 25 * i + j) (nI (S i j))) (mx S V i (j + 1)) len n := by
  intro a b h1 h2
  by_cases e : a = i ∧ b = j
  · obtain ⟨rfl, rfl⟩ := e
    rw [zU_eq, mx, if_pos (by omega)]
  · rw [zU_nj (by omega), h a b h1 h2]
    unfold mx
    by_cases e2 : a < i ∨ (a = i ∧ b < j)
    · rw [if_pos e2, if_pos (by omega)]
    · rw [if_neg e2, if_neg (by omega)]
theorem TBx.congr {Y : zY} {V W : Nat → Nat → Nat} {len n : Nat} (h : TBx Y V len n) (e : ∀ a b, a ≤ b → b ≤ len → V a b = W a b) : TBx Y W len n := fun a b h1 h2 => (h a b h1 h2).trans (by rw [e a b h1 h2])
theorem TBd.all {Y : zY} {V : Nat → Nat → Nat} {len n i : Nat} (h : TBd Y V len n i 0) (hi : len < i) : TBx Y V len n := fun a b h1 h2 => h a b h1 h2 (by omega)
theorem TBd.next {Y : zY} {V : Nat → Nat → Nat} {len n i j : Nat} (h : TBd Y V len n i j) (hj : len < j) : TBd Y V len n (i + 1) 0 := fun a b h1 h2 h3 => h a b h1 h2 (by omega)
theorem TBd.fst {Y : zY} {V : Nat → Nat → Nat} {len n i : Nat} (h : TBd Y V len n i 0) : TBd Y V len n i i := fun a b h1 h2 h3 => h a b h1 h2 (by omega)
theorem TBd.nil {Y : zY} {V : Nat → Nat → Nat} {len n : Nat} : TBd Y V len n 0 0 := fun a b h1 h2 h3 => absurd h3 (by omega)
theorem mx_0 {S V : Nat → Nat → Nat} (a b : Nat) : V a b = mx S V 0 0 a b := by unfold mx; rw [if_neg (by omega)]
theorem mx_row {S V : Nat → Nat → Nat} {i : Nat} (a b : Nat) (h : a ≤ b) : mx S V i 0 a b = mx S V i i a b := by
  unfold mx
  by_cases e : a < i
  · rw [if_pos (by omega), if_pos (by omega)]
  · rw [if_neg (by omega), if_neg (by omega)]
theorem mx_next {S V : Nat → Nat → Nat} {len i j : Nat} (hj : len < j) (a b : Nat) (h : b ≤ len) : mx S V i j a b = mx S V (i + 1) 0 a b := by
  unfold mx
  by_cases e : a < i + 1
  · rw [if_pos (by omega), if_pos (by omega)]
  · rw [if_neg (by omega), if_neg (by omega)]
theorem mx_all {S V : Nat → Nat → Nat} {len i : Nat} (hi : len < i) (a b : Nat) (h1 : a ≤ b) (h : b ≤ len) : mx S V i 0 a b = S a b := by unfold mx; rw [if_pos (by omega)]
theorem mx_same {S V : Nat → Nat → Nat} {i j : Nat} (h : ∀ a b, S a b = V a b) (a b : Nat) : mx S V i j a b = S a b := by unfold mx; split; rfl; exact (h a b).symm
theorem mx_at {S V : Nat → Nat → Nat} {i j : Nat} : mx S V i j i j = V i j := by unfold mx; rw [if_neg (by omega)]
theorem TBn.succ {Y : zY} {C : Nat → Nat → Nat → Nat} {len n : Nat} (h : TBn Y C len n) (h2 : TBx Y (C n) len n) : TBn Y C len (n + 1) := fun a ha i j h3 h4 => by
  rcases Nat.lt_succ_iff_lt_or_eq.mp ha with h5 | rfl
  · exact h a h5 i j h3 h4
  · exact h2 i j h3 h4
/-- the model's table of costs: not known, or right -/
def MT (Y : zY) (C : Nat → Nat → Nat → Nat) (len nn : Nat) : Prop := Y 102 21 = nI 0 ∨ (Y 102 21 = nI 1 ∧ TBn Y C len nn)
set_option maxHeartbeats 4000000 in
set_option maxRecDepth 100000 in
theorem kX6_ofNode (l : Launch) (G : zG) (A : Nat → Nat) (Y : zY) (n i j : Nat) (nn : Nat) (kd lf rt tx : Nat → Nat) (len ad mi wr : Nat) (T : Nat → Nat → Nat → Nat) (hMC : MC Y nn kd lf rt tx len ad mi wr) (hn : n < nn) (hij : i ≤ j) (hj : j ≤ len) (hT : ∀ a i' j', a < n → i' ≤ j' → j' ≤ len → Y 113 (625 * a + 25 * i' + j') = nI (T a i' j') ∧ T a i' j' ≤ 1000000) (hO : (kd n = 3 ∨ kd n = 4) → ∀ k, i ≤ k → k < j → Y 113 (625 * n + 25 * i + k) = nI (cPl (T (lf n)) i k) ∧ cPl (T (lf n)) i k ≤ 1000000) : ZI l yX6_ofNode cX6_ofNode 6 (.int) 2 50 G A Y [.ref (A 102), .int (nI n), .int (nI i), .int (nI j)] (fun r Y' => r = nI (cNode kd lf rt tx ad mi wr T n i j) ∧ Y' = Y) := by
  refine ZI.enter (by decide) (Nat.le_of_ble_eq_true rfl) ?_
  intro p e s m args below meth c R Q hxx hbb S hK hfr hlo hret H ls hP hS hl
  have hB : ∀ q, zAd A q → zAd A q := fun _ h => h
  have hl : lv_has ls 6 [(0, .ref (A 102)), (1, .int (nI n)), (2, .int (nI i)), (3, .int (nI j))] := hl
  have S : CallFix p m c cX6_ofNode 6 s args wsL_law RX6 := S
  have hMC9 := hMC
  obtain ⟨hwf, hlen, had, hmi, hwr, htx, hY2, hY19, hY15, hY16, hY17, hYt, hYn⟩ := hMC
  obtain ⟨hk6, hrt, hl0, hl1, hr1, hl6⟩ := hwf.2 n hn
  have hnn := hwf.1
  refine lv_aload_n hxx hbb dX6_ofNode_0 rfl (lv_at hl 0 rfl) ?_
  refine zgX6_16 S hK hP 102 (by decide) zk_102 dX6_ofNode_1 ?_
  refine lv_iload_n hxx hbb dX6_ofNode_4 rfl (lv_at hl 1 rfl) ?_
  refine zaldN S hK hP 105 24 (by decide) zk_105 zl_105 (by omega) (v := nI (lf n)) ((hYn _ (by omega)).2.1) dX6_ofNode_5 ?_
  refine lv_istore (lv' := [(4, .int (nI (lf n))), (0, .ref (A 102)), (1, .int (nI n)), (2, .int (nI i)), (3, .int (nI j))]) hxx hbb dX6_ofNode_6 hl (by decide) rfl (fun ls hl => ?_)
  refine lv_aload_n hxx hbb dX6_ofNode_8 rfl (lv_at hl 1 rfl) ?_
  refine zgX6_19 S hK hP 102 (by decide) zk_102 dX6_ofNode_9 ?_
  refine lv_iload_n hxx hbb dX6_ofNode_12 rfl (lv_at hl 2 rfl) ?_
  refine zaldN S hK hP 106 24 (by decide) zk_106 zl_106 (by omega) (v := nI (rt n)) ((hYn _ (by omega)).2.2) dX6_ofNode_13 ?_
  refine lv_istore (lv' := [(5, .int (nI (rt n))), (4, .int (nI (lf n))), (0, .ref (A 102)), (1, .int (nI n)), (2, .int (nI i)), (3, .int (nI j))]) hxx hbb dX6_ofNode_14 hl (by decide) rfl (fun ls hl => ?_)
  refine lv_aload_n hxx hbb dX6_ofNode_16 rfl (lv_at hl 2 rfl) ?_
  refine zgX6_13 S hK hP 102 (by decide) zk_102 dX6_ofNode_17 ?_
  refine lv_iload_n hxx hbb dX6_ofNode_20 rfl (lv_at hl 3 rfl) ?_
  refine zaldN S hK hP 104 24 (by decide) zk_104 zl_104 (by omega) (v := nI (kd n)) ((hYn _ (by omega)).1) dX6_ofNode_21 ?_
  by_cases c_1 : kd n = 0
  · skip
    refine ztabIn S (k := 0) (off := 42) (tgt := 64) c_1 dX6_ofNode_22 (by decide) (by decide) rfl (by decide) ?_
    refine lv_aload_n hxx hbb dX6_ofNode_64 rfl (lv_at hl 2 rfl) ?_
    refine lv_iload hxx hbb dX6_ofNode_65 (lv_at hl 1 rfl) ?_
    refine lv_iload_n hxx hbb dX6_ofNode_67 rfl (lv_at hl 4 rfl) ?_
    refine lv_iload_n hxx hbb dX6_ofNode_68 rfl (lv_at hl 5 rfl) ?_
    refine ZI.callV S hK hP hS hB (kX6_ofSet l G A Y (lf n) i j nn kd lf rt tx len ad mi wr hMC9 (by omega) (by omega) (by omega)) zwX6_146 zdX6_ofSet rfl ⟨Nat.le_trans (by decide) hfr, Nat.le_trans (by decide) hlo⟩ (by decide) (zcK6 zk_102) rfl rfl (Nat.le_of_ble_eq_true rfl) hl.1 dX6_ofNode_69 ⟨Nat.zero_le _, Nat.zero_le _⟩ (fun r_2 Y_3 H locs hq_4 hP hS => ?_)
    obtain ⟨hr9, hY9⟩ := hq_4
    subst hr9; rw [hY9] at hP
    exact hret _ _ _ _ _ _ dX6_ofNode_72 (rfl) hP hS (⟨by simp only [cNode]; (repeat (first | rw [if_pos (by omega)] | rw [if_neg (by omega)])), rfl⟩)
  by_cases c_5 : kd n = 1
  · skip
    refine ztabIn S (k := 1) (off := 51) (tgt := 73) c_5 dX6_ofNode_22 (by decide) (by decide) rfl (by decide) ?_
    refine lv_aload_n hxx hbb dX6_ofNode_73 rfl (lv_at hl 2 rfl) ?_
    refine lv_iload hxx hbb dX6_ofNode_74 (lv_at hl 1 rfl) ?_
    refine lv_iload hxx hbb dX6_ofNode_76 (lv_at hl 0 rfl) ?_
    refine lv_iload_n hxx hbb dX6_ofNode_78 rfl (lv_at hl 4 rfl) ?_
    refine lv_iload_n hxx hbb dX6_ofNode_79 rfl (lv_at hl 5 rfl) ?_
    refine ZI.callV S hK hP hS hB (kX6_ofRow l G A Y (lf n) (rt n) i j (T (lf n)) (T (rt n)) (by omega) (by omega) hij (by omega) (fun k h1 h2 => hT _ _ _ (by omega) h1 (by omega)) (fun k h1 h2 => hT _ _ _ (by omega) h2 hj)) zwX6_149 zdX6_ofRow rfl ⟨Nat.le_trans (by decide) hfr, Nat.le_trans (by decide) hlo⟩ (by decide) (zcK6 zk_102) rfl rfl (Nat.le_of_ble_eq_true rfl) hl.1 dX6_ofNode_80 ⟨Nat.zero_le _, Nat.zero_le _⟩ (fun r_6 Y_7 H locs hq_8 hP hS => ?_)
    obtain ⟨hr9, hY9⟩ := hq_8
    subst hr9; rw [hY9] at hP
    exact hret _ _ _ _ _ _ dX6_ofNode_83 (rfl) hP hS (⟨by simp only [cNode]; (repeat (first | rw [if_pos (by omega)] | rw [if_neg (by omega)])), rfl⟩)
  by_cases c_9 : kd n = 2
  · skip
    refine ztabIn S (k := 2) (off := 62) (tgt := 84) c_9 dX6_ofNode_22 (by decide) (by decide) rfl (by decide) ?_
    have ht1 := (hT (lf n) i j (by omega) hij hj).2
    have ht2 := (hT (rt n) i j (by omega) hij hj).2
    refine lv_aload_n hxx hbb dX6_ofNode_84 rfl (lv_at hl 2 rfl) ?_
    refine lv_iload hxx hbb dX6_ofNode_85 (lv_at hl 1 rfl) ?_
    refine lv_iload_n hxx hbb dX6_ofNode_87 rfl (lv_at hl 4 rfl) ?_
    refine lv_iload_n hxx hbb dX6_ofNode_88 rfl (lv_at hl 5 rfl) ?_
    refine ZI.callV S hK hP hS hB (kX6_costOf l G A Y (lf n) i j (by omega) (by omega) (by omega)) zwX6_139 zdX6_costOf rfl ⟨Nat.le_trans (by decide) hfr, Nat.le_trans (by decide) hlo⟩ (by decide) (zcK6 zk_102) rfl rfl (Nat.le_of_ble_eq_true rfl) hl.1 dX6_ofNode_89 ⟨Nat.zero_le _, Nat.zero_le _⟩ (fun r_10 Y_11 H locs hq_12 hP hS => ?_)
    obtain ⟨hr9, hY9⟩ := hq_12
    have hr9 := hr9.trans ((hT _ _ _ (by omega) hij hj).1)
    subst hr9; rw [hY9] at hP
    refine lv_aload_n hxx hbb dX6_ofNode_92 rfl (lv_at hl 2 rfl) ?_
    refine lv_iload hxx hbb dX6_ofNode_93 (lv_at hl 0 rfl) ?_
    refine lv_iload_n hxx hbb dX6_ofNode_95 rfl (lv_at hl 4 rfl) ?_
    refine lv_iload_n hxx hbb dX6_ofNode_96 rfl (lv_at hl 5 rfl) ?_
    refine ZI.callV S hK hP hS hB (kX6_costOf l G A Y (rt n) i j (by omega) (by omega) (by omega)) zwX6_139 zdX6_costOf rfl ⟨Nat.le_trans (by decide) hfr, Nat.le_trans (by decide) hlo⟩ (by decide) (zcK6 zk_102) rfl rfl (Nat.le_of_ble_eq_true rfl) hl.1 dX6_ofNode_97 ⟨Nat.zero_le _, Nat.zero_le _⟩ (fun r_13 Y_14 H locs hq_15 hP hS => ?_)
    obtain ⟨hr9, hY9⟩ := hq_15
    have hr9 := hr9.trans ((hT _ _ _ (by omega) hij hj).1)
    subst hr9; rw [hY9] at hP
    refine zcmp_ge (tgt := 114) S (by omega) (by omega) dX6_ofNode_100 (by decide) (fun c_16 => ?_) (fun c_16 => ?_)
    · skip
      refine lv_aload_n hxx hbb dX6_ofNode_114 rfl (lv_at hl 2 rfl) ?_
      refine lv_iload hxx hbb dX6_ofNode_115 (lv_at hl 0 rfl) ?_
      refine lv_iload_n hxx hbb dX6_ofNode_117 rfl (lv_at hl 4 rfl) ?_
      refine lv_iload_n hxx hbb dX6_ofNode_118 rfl (lv_at hl 5 rfl) ?_
      refine ZI.callV S hK hP hS hB (kX6_costOf l G A Y (rt n) i j (by omega) (by omega) (by omega)) zwX6_139 zdX6_costOf rfl ⟨Nat.le_trans (by decide) hfr, Nat.le_trans (by decide) hlo⟩ (by decide) (zcK6 zk_102) rfl rfl (Nat.le_of_ble_eq_true rfl) hl.1 dX6_ofNode_119 ⟨Nat.zero_le _, Nat.zero_le _⟩ (fun r_17 Y_18 H locs hq_19 hP hS => ?_)
      obtain ⟨hr9, hY9⟩ := hq_19
      have hr9 := hr9.trans ((hT _ _ _ (by omega) hij hj).1)
      subst hr9; rw [hY9] at hP
      exact hret _ _ _ _ _ _ dX6_ofNode_122 (rfl) hP hS (⟨by simp only [cNode]; (repeat (first | rw [if_pos (by omega)] | rw [if_neg (by omega)])), rfl⟩)
    · skip
      refine lv_aload_n hxx hbb dX6_ofNode_103 rfl (lv_at hl 2 rfl) ?_
      refine lv_iload hxx hbb dX6_ofNode_104 (lv_at hl 1 rfl) ?_
      refine lv_iload_n hxx hbb dX6_ofNode_106 rfl (lv_at hl 4 rfl) ?_
      refine lv_iload_n hxx hbb dX6_ofNode_107 rfl (lv_at hl 5 rfl) ?_
      refine ZI.callV S hK hP hS hB (kX6_costOf l G A Y (lf n) i j (by omega) (by omega) (by omega)) zwX6_139 zdX6_costOf rfl ⟨Nat.le_trans (by decide) hfr, Nat.le_trans (by decide) hlo⟩ (by decide) (zcK6 zk_102) rfl rfl (Nat.le_of_ble_eq_true rfl) hl.1 dX6_ofNode_108 ⟨Nat.zero_le _, Nat.zero_le _⟩ (fun r_20 Y_21 H locs hq_22 hP hS => ?_)
      obtain ⟨hr9, hY9⟩ := hq_22
      have hr9 := hr9.trans ((hT _ _ _ (by omega) hij hj).1)
      subst hr9; rw [hY9] at hP
      refine lv_goto (tgt := 122) hxx hbb dX6_ofNode_111 (by decide) ?_
      exact hret _ _ _ _ _ _ dX6_ofNode_122 (rfl) hP hS (⟨by simp only [cNode]; (repeat (first | rw [if_pos (by omega)] | rw [if_neg (by omega)])), rfl⟩)
  by_cases c_23 : kd n = 3
  · skip
    refine ztabIn S (k := 3) (off := 167) (tgt := 189) c_23 dX6_ofNode_22 (by decide) (by decide) rfl (by decide) ?_
    refine lv_aload_n hxx hbb dX6_ofNode_189 rfl (lv_at hl 2 rfl) ?_
    refine lv_iload_n hxx hbb dX6_ofNode_190 rfl (lv_at hl 3 rfl) ?_
    refine lv_iload hxx hbb dX6_ofNode_191 (lv_at hl 1 rfl) ?_
    refine lv_iload_n hxx hbb dX6_ofNode_193 rfl (lv_at hl 4 rfl) ?_
    refine lv_iload_n hxx hbb dX6_ofNode_194 rfl (lv_at hl 5 rfl) ?_
    refine ZI.callV S hK hP hS hB (kX6_ofPlus l G A Y n (lf n) i j (cPl (T (lf n))) (T (lf n)) (by omega) (by omega) hij (by omega) (hO (by omega)) (fun k h1 h2 => hT _ _ _ (by omega) h2 hj)) zwX6_153 zdX6_ofPlus rfl ⟨Nat.le_trans (by decide) hfr, Nat.le_trans (by decide) hlo⟩ (by decide) (zcK6 zk_102) rfl rfl (Nat.le_of_ble_eq_true rfl) hl.1 dX6_ofNode_195 ⟨Nat.zero_le _, Nat.zero_le _⟩ (fun r_24 Y_25 H locs hq_26 hP hS => ?_)
    obtain ⟨hr9, hY9⟩ := hq_26
    subst hr9; rw [hY9] at hP
    exact hret _ _ _ _ _ _ dX6_ofNode_198 (rfl) hP hS (⟨by simp only [cNode]; (repeat (first | rw [if_pos (by omega)] | rw [if_neg (by omega)])); rw [← cPl_eq], rfl⟩)
  by_cases c_27 : kd n = 4
  · skip
    refine ztabIn S (k := 4) (off := 167) (tgt := 189) c_27 dX6_ofNode_22 (by decide) (by decide) rfl (by decide) ?_
    refine lv_aload_n hxx hbb dX6_ofNode_189 rfl (lv_at hl 2 rfl) ?_
    refine lv_iload_n hxx hbb dX6_ofNode_190 rfl (lv_at hl 3 rfl) ?_
    refine lv_iload hxx hbb dX6_ofNode_191 (lv_at hl 1 rfl) ?_
    refine lv_iload_n hxx hbb dX6_ofNode_193 rfl (lv_at hl 4 rfl) ?_
    refine lv_iload_n hxx hbb dX6_ofNode_194 rfl (lv_at hl 5 rfl) ?_
    refine ZI.callV S hK hP hS hB (kX6_ofPlus l G A Y n (lf n) i j (cPl (T (lf n))) (T (lf n)) (by omega) (by omega) hij (by omega) (hO (by omega)) (fun k h1 h2 => hT _ _ _ (by omega) h2 hj)) zwX6_153 zdX6_ofPlus rfl ⟨Nat.le_trans (by decide) hfr, Nat.le_trans (by decide) hlo⟩ (by decide) (zcK6 zk_102) rfl rfl (Nat.le_of_ble_eq_true rfl) hl.1 dX6_ofNode_195 ⟨Nat.zero_le _, Nat.zero_le _⟩ (fun r_28 Y_29 H locs hq_30 hP hS => ?_)
    obtain ⟨hr9, hY9⟩ := hq_30
    subst hr9; rw [hY9] at hP
    exact hret _ _ _ _ _ _ dX6_ofNode_198 (rfl) hP hS (⟨by simp only [cNode]; (repeat (first | rw [if_pos (by omega)] | rw [if_neg (by omega)])); rw [← cPl_eq], rfl⟩)
  by_cases c_31 : kd n = 5
  · skip
    refine ztabIn S (k := 5) (off := 101) (tgt := 123) c_31 dX6_ofNode_22 (by decide) (by decide) rfl (by decide) ?_
    have ht1 := (hT (lf n) i j (by omega) hij hj).2
    have hm9 := c9 (a := j - i) (b := ad) (by omega) had
    refine lv_aload_n hxx hbb dX6_ofNode_123 rfl (lv_at hl 2 rfl) ?_
    refine lv_iload hxx hbb dX6_ofNode_124 (lv_at hl 1 rfl) ?_
    refine lv_iload_n hxx hbb dX6_ofNode_126 rfl (lv_at hl 4 rfl) ?_
    refine lv_iload_n hxx hbb dX6_ofNode_127 rfl (lv_at hl 5 rfl) ?_
    refine ZI.callV S hK hP hS hB (kX6_costOf l G A Y (lf n) i j (by omega) (by omega) (by omega)) zwX6_139 zdX6_costOf rfl ⟨Nat.le_trans (by decide) hfr, Nat.le_trans (by decide) hlo⟩ (by decide) (zcK6 zk_102) rfl rfl (Nat.le_of_ble_eq_true rfl) hl.1 dX6_ofNode_128 ⟨Nat.zero_le _, Nat.zero_le _⟩ (fun r_32 Y_33 H locs hq_34 hP hS => ?_)
    obtain ⟨hr9, hY9⟩ := hq_34
    have hr9 := hr9.trans ((hT _ _ _ (by omega) hij hj).1)
    subst hr9; rw [hY9] at hP
    refine lv_iload_n hxx hbb dX6_ofNode_131 rfl (lv_at hl 5 rfl) ?_
    refine lv_iload_n hxx hbb dX6_ofNode_132 rfl (lv_at hl 4 rfl) ?_
    refine zsubN S (by omega) dX6_ofNode_133 ?_
    refine lv_aload_n hxx hbb dX6_ofNode_134 rfl (lv_at hl 2 rfl) ?_
    refine zgX6_37 S hK hP 102 (by decide) zk_102 (v := nI ad) (hY15) dX6_ofNode_135 ?_
    refine zmulN S dX6_ofNode_138 ?_
    refine zcmp_ge (tgt := 153) S (by omega) (by omega) dX6_ofNode_139 (by decide) (fun c_35 => ?_) (fun c_35 => ?_)
    · skip
      refine lv_iload_n hxx hbb dX6_ofNode_153 rfl (lv_at hl 5 rfl) ?_
      refine lv_iload_n hxx hbb dX6_ofNode_154 rfl (lv_at hl 4 rfl) ?_
      refine zsubN S (by omega) dX6_ofNode_155 ?_
      refine lv_aload_n hxx hbb dX6_ofNode_156 rfl (lv_at hl 2 rfl) ?_
      refine zgX6_37 S hK hP 102 (by decide) zk_102 (v := nI ad) (hY15) dX6_ofNode_157 ?_
      refine zmulN S dX6_ofNode_160 ?_
      exact hret _ _ _ _ _ _ dX6_ofNode_161 (rfl) hP hS (⟨by simp only [cNode]; (repeat (first | rw [if_pos (by omega)] | rw [if_neg (by omega)])), rfl⟩)
    · skip
      refine lv_aload_n hxx hbb dX6_ofNode_142 rfl (lv_at hl 2 rfl) ?_
      refine lv_iload hxx hbb dX6_ofNode_143 (lv_at hl 1 rfl) ?_
      refine lv_iload_n hxx hbb dX6_ofNode_145 rfl (lv_at hl 4 rfl) ?_
      refine lv_iload_n hxx hbb dX6_ofNode_146 rfl (lv_at hl 5 rfl) ?_
      refine ZI.callV S hK hP hS hB (kX6_costOf l G A Y (lf n) i j (by omega) (by omega) (by omega)) zwX6_139 zdX6_costOf rfl ⟨Nat.le_trans (by decide) hfr, Nat.le_trans (by decide) hlo⟩ (by decide) (zcK6 zk_102) rfl rfl (Nat.le_of_ble_eq_true rfl) hl.1 dX6_ofNode_147 ⟨Nat.zero_le _, Nat.zero_le _⟩ (fun r_36 Y_37 H locs hq_38 hP hS => ?_)
      obtain ⟨hr9, hY9⟩ := hq_38
      have hr9 := hr9.trans ((hT _ _ _ (by omega) hij hj).1)
      subst hr9; rw [hY9] at hP
      refine lv_goto (tgt := 161) hxx hbb dX6_ofNode_150 (by decide) ?_
      exact hret _ _ _ _ _ _ dX6_ofNode_161 (rfl) hP hS (⟨by simp only [cNode]; (repeat (first | rw [if_pos (by omega)] | rw [if_neg (by omega)])), rfl⟩)
  by_cases c_39 : kd n = 6
  · skip
    refine ztabIn S (k := 6) (off := 140) (tgt := 162) c_39 dX6_ofNode_22 (by decide) (by decide) rfl (by decide) ?_
    have ht1 := (hT (lf n) i j (by omega) hij hj).2
    refine lv_aload_n hxx hbb dX6_ofNode_162 rfl (lv_at hl 2 rfl) ?_
    refine lv_iload hxx hbb dX6_ofNode_163 (lv_at hl 1 rfl) ?_
    refine lv_iload_n hxx hbb dX6_ofNode_165 rfl (lv_at hl 4 rfl) ?_
    refine lv_iload_n hxx hbb dX6_ofNode_166 rfl (lv_at hl 5 rfl) ?_
    refine ZI.callV S hK hP hS hB (kX6_costOf l G A Y (lf n) i j (by omega) (by omega) (by omega)) zwX6_139 zdX6_costOf rfl ⟨Nat.le_trans (by decide) hfr, Nat.le_trans (by decide) hlo⟩ (by decide) (zcK6 zk_102) rfl rfl (Nat.le_of_ble_eq_true rfl) hl.1 dX6_ofNode_167 ⟨Nat.zero_le _, Nat.zero_le _⟩ (fun r_40 Y_41 H locs hq_42 hP hS => ?_)
    obtain ⟨hr9, hY9⟩ := hq_42
    have hr9 := hr9.trans ((hT _ _ _ (by omega) hij hj).1)
    subst hr9; rw [hY9] at hP
    refine lv_iload hxx hbb dX6_ofNode_170 (lv_at hl 0 rfl) ?_
    refine zcmp_gt (tgt := 186) S (by omega) (by omega) dX6_ofNode_172 (by decide) (fun c_43 => ?_) (fun c_43 => ?_)
    · skip
      refine zldc S (v := 1000000) zxX6_138 dX6_ofNode_186 ?_
      rw [show (1000000 : Int32) = nI 1000000 from rfl]
      exact hret _ _ _ _ _ _ dX6_ofNode_188 (rfl) hP hS (⟨by simp only [cNode]; (repeat (first | rw [if_pos (by omega)] | rw [if_neg (by omega)])), rfl⟩)
    · skip
      refine lv_aload_n hxx hbb dX6_ofNode_175 rfl (lv_at hl 2 rfl) ?_
      refine lv_iload hxx hbb dX6_ofNode_176 (lv_at hl 1 rfl) ?_
      refine lv_iload_n hxx hbb dX6_ofNode_178 rfl (lv_at hl 4 rfl) ?_
      refine lv_iload_n hxx hbb dX6_ofNode_179 rfl (lv_at hl 5 rfl) ?_
      refine ZI.callV S hK hP hS hB (kX6_costOf l G A Y (lf n) i j (by omega) (by omega) (by omega)) zwX6_139 zdX6_costOf rfl ⟨Nat.le_trans (by decide) hfr, Nat.le_trans (by decide) hlo⟩ (by decide) (zcK6 zk_102) rfl rfl (Nat.le_of_ble_eq_true rfl) hl.1 dX6_ofNode_180 ⟨Nat.zero_le _, Nat.zero_le _⟩ (fun r_44 Y_45 H locs hq_46 hP hS => ?_)
      obtain ⟨hr9, hY9⟩ := hq_46
      have hr9 := hr9.trans ((hT _ _ _ (by omega) hij hj).1)
      subst hr9; rw [hY9] at hP
      refine lv_goto (tgt := 188) hxx hbb dX6_ofNode_183 (by decide) ?_
      exact hret _ _ _ _ _ _ dX6_ofNode_188 (rfl) hP hS (⟨by simp only [cNode]; (repeat (first | rw [if_pos (by omega)] | rw [if_neg (by omega)])), rfl⟩)
  refine ztabOut S (tgt := 189) (by omega) dX6_ofNode_22 (by omega) (by decide) ?_
  exfalso; omega

set_option maxHeartbeats 4000000 in
set_option maxRecDepth 100000 in
theorem kX6_work (l : Launch) (G : zG) (A : Nat → Nat) (Y : zY) (nn : Nat) (kd lf rt tx : Nat → Nat) (len ad mi wr : Nat) (C : Nat → Nat → Nat → Nat) (hMC : MC Y nn kd lf rt tx len ad mi wr) (hC : C = cCost kd lf rt tx ad mi wr) (hkn : MT Y C len nn) : ZV l yX6_work cX6_work 5 3 75 G A Y [.ref (A 102)] (fun Y' => MK Y Y' ∧ Y' 102 21 = nI 1 ∧ TBn Y' C len nn) := by
  refine ZV.enter (by decide) (Nat.le_of_ble_eq_true rfl) ?_
  intro p e s m args below meth c R Q hxx hbb S hK hfr hlo hret H ls hP hS hl
  have hB : ∀ q, zAd A q → zAd A q := fun _ h => h
  have hl : lv_has ls 5 [(0, .ref (A 102))] := hl
  have S : CallFix p m c cX6_work 5 s args wsL_law RX6 := S
  have hMC9 := hMC
  obtain ⟨hwf, hlen, had, hmi, hwr, htx, hY2, hY19, hY15, hY16, hY17, hYt, hYn⟩ := hMC
  have hnn := hwf.1
  have hCle : ∀ a, a < nn → ∀ i j, j ≤ 24 → C a i j ≤ 1000000 := fun a ha i j h => by rw [hC]; exact cCost_le hwf had hmi h a ha i
  rcases hkn with h21 | ⟨h21, hTB⟩
  · skip
    refine lv_aload_n hxx hbb dX6_work_0 rfl (lv_at hl 0 rfl) ?_
    refine zgX6_128 S hK hP 102 (by decide) zk_102 (v := nI 0) (h21) dX6_work_1 ?_
    refine zif_eq (tgt := 8) S (by omega) dX6_work_4 (by decide) (fun c_1 => ?_) (fun c_1 => ?_)
    · skip
      refine lv_aload_n hxx hbb dX6_work_8 rfl (lv_at hl 0 rfl) ?_
      refine lv_iconst (v := nI 1) hxx hbb dX6_work_9 (by decide) ?_
      refine zpX6_128 S hK hP hS hB 102 (by decide) zk_102 (by first | exact ⟨rfl, rfl⟩ | decide) dX6_work_10 (fun H locs hP hS => ?_)
      refine lv_iconst (v := nI 0) hxx hbb dX6_work_13 (by decide) ?_
      refine lv_istore_n (lv' := [(1, .int (nI 0)), (0, .ref (A 102))]) hxx hbb dX6_work_14 rfl hl (by decide) rfl (fun ls hl => ?_)
      have L_15 : ∀ (N_15 : Nat) (n : Nat) (Y1 : zY) (hn : n ≤ nn) (hk1 : MK Y Y1) (h11 : Y1 102 21 = nI 1) (ht1 : TBn Y1 C len n), nn - n < N_15 → ∀ (H : Heap) (locs : List Loc) (ls : Array Slot), va_P G.1 vwCl (zW G A Y1) H → va_S (zAd A) s.heap H locs → lv_has ls 5 [(0, .ref (A 102)), (1, .int (nI n))] → W p l e R s m args below meth c H locs 0 0 Q (F0 m 15 ls []) := by
        intro N_15
        induction N_15 with
        | zero => intro n Y1 hn hk1 h11 ht1 hm; exact absurd hm (Nat.not_lt_zero _)
        | succ N_15 ih_15 =>
          intro n Y1 hn hk1 h11 ht1 hm_15 H locs ls hP hS hl
          refine lv_iload_n hxx hbb dX6_work_15 rfl (lv_at hl 1 rfl) ?_
          refine lv_aload_n hxx hbb dX6_work_16 rfl (lv_at hl 0 rfl) ?_
          refine zgX6_122 S hK hP 102 (by decide) zk_102 (v := nI nn) ((hk1.2 _ (by decide)).trans hY2) dX6_work_17 ?_
          refine zcmp_ge (tgt := 178) S (by omega) (by omega) dX6_work_20 (by decide) (fun c_2 => ?_) (fun c_2 => ?_)
          · skip
            exact hret _ _ _ _ _ dX6_work_178 hP hS (⟨hk1, h11, (by rw [show nn = n by omega]; exact ht1)⟩)
          · skip
            obtain ⟨hk6, hrt, hl0, hl1, hr1, hl6⟩ := hwf.2 n (by omega)
            obtain ⟨V, hV⟩ : ∃ V, V = cNode kd lf rt tx ad mi wr C n := ⟨_, rfl⟩
            have hlf : kd n = 3 ∨ kd n = 4 → lf n < nn := fun h => by omega
            have hVle : ∀ i j, j ≤ 24 → V i j ≤ 1000000 := fun i j h => by rw [hV]; exact cNode_le had hmi h (fun h0 => hCle _ (by have := hl1 h0; omega) _ _ h)
            refine lv_iconst (v := nI 0) hxx hbb dX6_work_23 (by decide) ?_
            refine lv_istore_n (lv' := [(2, .int (nI 0)), (0, .ref (A 102)), (1, .int (nI n))]) hxx hbb dX6_work_24 rfl hl (by decide) rfl (fun ls hl => ?_)
            have L_25 : ∀ (N_25 : Nat) (i : Nat) (Y2 : zY) (hi : i ≤ len + 1) (hk2 : MK Y Y2) (h12 : Y2 102 21 = nI 1) (ht2 : TBn Y2 C len n) (hd2 : TBd Y2 V len n i 0), len + 1 - i < N_25 → ∀ (H : Heap) (locs : List Loc) (ls : Array Slot), va_P G.1 vwCl (zW G A Y2) H → va_S (zAd A) s.heap H locs → lv_has ls 5 [(0, .ref (A 102)), (1, .int (nI n)), (2, .int (nI i))] → W p l e R s m args below meth c H locs 0 0 Q (F0 m 25 ls []) := by
              intro N_25
              induction N_25 with
              | zero => intro i Y2 hi hk2 h12 ht2 hd2 hm; exact absurd hm (Nat.not_lt_zero _)
              | succ N_25 ih_25 =>
                intro i Y2 hi hk2 h12 ht2 hd2 hm_25 H locs ls hP hS hl
                refine lv_iload_n hxx hbb dX6_work_25 rfl (lv_at hl 2 rfl) ?_
                refine lv_aload_n hxx hbb dX6_work_26 rfl (lv_at hl 0 rfl) ?_
                refine zgX6_135 S hK hP 102 (by decide) zk_102 (v := nI len) ((hk2.2 _ (by decide)).trans hY19) dX6_work_27 ?_
                refine zcmp_gt (tgt := 79) S (by omega) (by omega) dX6_work_30 (by decide) (fun c_3 => ?_) (fun c_3 => ?_)
                · skip
                  refine lv_iconst (v := nI 0) hxx hbb dX6_work_79 (by decide) ?_
                  refine lv_istore_n (lv' := [(2, .int (nI 0)), (0, .ref (A 102)), (1, .int (nI n))]) hxx hbb dX6_work_80 rfl hl (by decide) rfl (fun ls hl => ?_)
                  have L_81 : ∀ (N_81 : Nat) (i : Nat) (Y4 : zY) (hi : i ≤ len + 1) (hk4 : MK Y Y4) (h14 : Y4 102 21 = nI 1) (ht4 : TBn Y4 C len n) (hx4 : TBx Y4 (mx (C n) V i 0) len n), len + 1 - i < N_81 → ∀ (H : Heap) (locs : List Loc) (ls : Array Slot), va_P G.1 vwCl (zW G A Y4) H → va_S (zAd A) s.heap H locs → lv_has ls 5 [(0, .ref (A 102)), (1, .int (nI n)), (2, .int (nI i))] → W p l e R s m args below meth c H locs 0 0 Q (F0 m 81 ls []) := by
                    intro N_81
                    induction N_81 with
                    | zero => intro i Y4 hi hk4 h14 ht4 hx4 hm; exact absurd hm (Nat.not_lt_zero _)
                    | succ N_81 ih_81 =>
                      intro i Y4 hi hk4 h14 ht4 hx4 hm_81 H locs ls hP hS hl
                      refine lv_iload_n hxx hbb dX6_work_81 rfl (lv_at hl 2 rfl) ?_
                      refine lv_aload_n hxx hbb dX6_work_82 rfl (lv_at hl 0 rfl) ?_
                      refine zgX6_135 S hK hP 102 (by decide) zk_102 (v := nI len) ((hk4.2 _ (by decide)).trans hY19) dX6_work_83 ?_
                      refine zcmp_gt (tgt := 172) S (by omega) (by omega) dX6_work_86 (by decide) (fun c_4 => ?_) (fun c_4 => ?_)
                      · skip
                        refine lv_iinc (v := nI (n + 1)) (lv' := [(1, .int (nI (n + 1))), (0, .ref (A 102)), (2, .int (nI i))]) hxx hbb dX6_work_172 hl (k := 1) rfl (zinc1 _) (by decide) rfl (fun ls hl => ?_)
                        refine lv_goto (tgt := 15) hxx hbb dX6_work_175 (by decide) ?_
                        exact ih_15 (n + 1) Y4 (by omega) hk4 h14 (ht4.succ (hx4.congr (fun a b h1 h2 => mx_all (by omega) a b h1 h2))) (by omega) _ _ _ hP hS (lv_sub hl [1, 0] rfl)
                      · skip
                        refine lv_aload_n hxx hbb dX6_work_89 rfl (lv_at hl 0 rfl) ?_
                        refine zgX6_13 S hK hP 102 (by decide) zk_102 dX6_work_90 ?_
                        refine lv_iload_n hxx hbb dX6_work_93 rfl (lv_at hl 1 rfl) ?_
                        refine zaldN S hK hP 104 24 (by decide) zk_104 zl_104 (by omega) (v := nI (kd n)) ((congrFun (hk4.1 104 (by decide) (by decide)) _).trans (hYn _ (by omega)).1) dX6_work_94 ?_
                        refine lv_iconst (v := nI 3) hxx hbb dX6_work_95 (by decide) ?_
                        refine zcmp_ne (tgt := 172) S (by omega) (by omega) dX6_work_96 (by decide) (fun c_5 => ?_) (fun c_5 => ?_)
                        · skip
                          refine lv_iinc (v := nI (n + 1)) (lv' := [(1, .int (nI (n + 1))), (0, .ref (A 102)), (2, .int (nI i))]) hxx hbb dX6_work_172 hl (k := 1) rfl (zinc1 _) (by decide) rfl (fun ls hl => ?_)
                          refine lv_goto (tgt := 15) hxx hbb dX6_work_175 (by decide) ?_
                          exact ih_15 (n + 1) Y4 (by omega) hk4 h14 (ht4.succ (hx4.congr (fun a b _ _ => mx_same (fun a b => by rw [hC, cCost_eq hl1 hr1, ← hC, ← hV]; exact if_neg (by omega)) a b))) (by omega) _ _ _ hP hS (lv_sub hl [1, 0] rfl)
                        · skip
                          refine lv_iload_n hxx hbb dX6_work_99 rfl (lv_at hl 2 rfl) ?_
                          refine lv_istore_n (lv' := [(3, .int (nI i)), (0, .ref (A 102)), (1, .int (nI n)), (2, .int (nI i))]) hxx hbb dX6_work_100 rfl hl (by decide) rfl (fun ls hl => ?_)
                          have L_101 : ∀ (N_101 : Nat) (j : Nat) (Y5 : zY) (hij : i ≤ j) (hj : j ≤ len + 1) (hk5 : MK Y Y5) (h15 : Y5 102 21 = nI 1) (ht5 : TBn Y5 C len n) (hx5 : TBx Y5 (mx (C n) V i j) len n), len + 1 - j < N_101 → ∀ (H : Heap) (locs : List Loc) (ls : Array Slot), va_P G.1 vwCl (zW G A Y5) H → va_S (zAd A) s.heap H locs → lv_has ls 5 [(0, .ref (A 102)), (1, .int (nI n)), (2, .int (nI i)), (3, .int (nI j))] → W p l e R s m args below meth c H locs 0 0 Q (F0 m 101 ls []) := by
                            intro N_101
                            induction N_101 with
                            | zero => intro j Y5 hij hj hk5 h15 ht5 hx5 hm; exact absurd hm (Nat.not_lt_zero _)
                            | succ N_101 ih_101 =>
                              intro j Y5 hij hj hk5 h15 ht5 hx5 hm_101 H locs ls hP hS hl
                              refine lv_iload_n hxx hbb dX6_work_101 rfl (lv_at hl 3 rfl) ?_
                              refine lv_aload_n hxx hbb dX6_work_102 rfl (lv_at hl 0 rfl) ?_
                              refine zgX6_135 S hK hP 102 (by decide) zk_102 (v := nI len) ((hk5.2 _ (by decide)).trans hY19) dX6_work_103 ?_
                              refine zcmp_gt (tgt := 166) S (by omega) (by omega) dX6_work_106 (by decide) (fun c_6 => ?_) (fun c_6 => ?_)
                              · skip
                                refine lv_iinc (v := nI (i + 1)) (lv' := [(2, .int (nI (i + 1))), (0, .ref (A 102)), (1, .int (nI n)), (3, .int (nI j))]) hxx hbb dX6_work_166 hl (k := 2) rfl (zinc1 _) (by decide) rfl (fun ls hl => ?_)
                                refine lv_goto (tgt := 81) hxx hbb dX6_work_169 (by decide) ?_
                                exact ih_81 (i + 1) Y5 (by omega) hk5 h15 ht5 (hx5.congr (fun a b _ h => mx_next (by omega) a b h)) (by omega) _ _ _ hP hS (lv_sub hl [1, 2, 0] rfl)
                              · skip
                                have hv9 := hVle i j (by omega)
                                have hm9 := c9 (a := j - i) (b := ad) (by omega) had
                                refine lv_iload_n hxx hbb dX6_work_109 rfl (lv_at hl 3 rfl) ?_
                                refine lv_iload_n hxx hbb dX6_work_110 rfl (lv_at hl 2 rfl) ?_
                                refine zsubN S (by omega) dX6_work_111 ?_
                                refine lv_aload_n hxx hbb dX6_work_112 rfl (lv_at hl 0 rfl) ?_
                                refine zgX6_37 S hK hP 102 (by decide) zk_102 (v := nI ad) ((hk5.2 _ (by decide)).trans hY15) dX6_work_113 ?_
                                refine zmulN S dX6_work_116 ?_
                                refine lv_istore (lv' := [(4, .int (nI ((j - i) * ad))), (0, .ref (A 102)), (1, .int (nI n)), (2, .int (nI i)), (3, .int (nI j))]) hxx hbb dX6_work_117 hl (by decide) rfl (fun ls hl => ?_)
                                refine lv_aload_n hxx hbb dX6_work_119 rfl (lv_at hl 1 rfl) ?_
                                refine zgX6_50 S hK hP 102 (by decide) zk_102 dX6_work_120 ?_
                                refine lv_sipush (v := nI 625) hxx hbb dX6_work_123 (by decide) ?_
                                refine lv_iload_n hxx hbb dX6_work_126 rfl (lv_at hl 2 rfl) ?_
                                refine zmulN S dX6_work_127 ?_
                                refine lv_bipush (v := nI 25) hxx hbb dX6_work_128 (by decide) ?_
                                refine lv_iload_n hxx hbb dX6_work_130 rfl (lv_at hl 3 rfl) ?_
                                refine zmulN S dX6_work_131 ?_
                                refine zaddN S dX6_work_132 ?_
                                refine lv_iload_n hxx hbb dX6_work_133 rfl (lv_at hl 4 rfl) ?_
                                refine zaddN S dX6_work_134 ?_
                                refine lv_aload_n hxx hbb dX6_work_135 rfl (lv_at hl 1 rfl) ?_
                                refine lv_iload_n hxx hbb dX6_work_136 rfl (lv_at hl 2 rfl) ?_
                                refine lv_iload_n hxx hbb dX6_work_137 rfl (lv_at hl 3 rfl) ?_
                                refine lv_iload_n hxx hbb dX6_work_138 rfl (lv_at hl 4 rfl) ?_
                                refine ZI.callV S hK hP hS hB (kX6_costOf l G A Y5 n i j (by omega) (by omega) (by omega)) zwX6_139 zdX6_costOf rfl ⟨Nat.le_trans (by decide) hfr, Nat.le_trans (by decide) hlo⟩ (by decide) (zcK6 zk_102) rfl rfl (Nat.le_of_ble_eq_true rfl) hl.1 dX6_work_139 ⟨Nat.zero_le _, Nat.zero_le _⟩ (fun r_7 Y_8 H locs hq_9 hP hS => ?_)
                                obtain ⟨hr9, hY9⟩ := hq_9
                                have hr9 := hr9.trans ((hx5 _ _ (by omega) (by omega)).trans (by rw [mx_at]))
                                subst hr9; rw [hY9] at hP
                                refine lv_iload hxx hbb dX6_work_142 (lv_at hl 0 rfl) ?_
                                refine zcmp_ge (tgt := 157) S (by omega) (by omega) dX6_work_144 (by decide) (fun c_10 => ?_) (fun c_10 => ?_)
                                · skip
                                  refine lv_iload hxx hbb dX6_work_157 (lv_at hl 0 rfl) ?_
                                  refine zastN S hK hP hS hB 113 15000 (by decide) zk_113 zl_113 (by omega) dX6_work_159 (fun H locs hP hS => ?_)
                                  refine lv_iinc (v := nI (j + 1)) (lv' := [(3, .int (nI (j + 1))), (4, .int (nI ((j - i) * ad))), (0, .ref (A 102)), (1, .int (nI n)), (2, .int (nI i))]) hxx hbb dX6_work_160 hl (k := 4) rfl (zinc1 _) (by decide) rfl (fun ls hl => ?_)
                                  refine lv_goto (tgt := 101) hxx hbb dX6_work_163 (by decide) ?_
                                  exact ih_101 (j + 1) (zU Y5 113 (625 * n + (25 * i) + j) (nI ((j - i) * ad))) (by omega) (by omega) hk5.put ((zU_np (by decide)).trans h15) (ht5.put hlen (by omega) (by omega)) (by have e9 : C n i j = (j - i) * ad := (by rw [hC, cCost_eq hl1 hr1, ← hC, ← hV, cStar, if_pos (by omega)]; first | rw [if_pos (by omega)] | rw [if_neg (by omega)]); rw [← e9]; exact hx5.put hlen (by omega) (by omega)) (by omega) _ _ _ hP hS (lv_sub hl [2, 3, 4, 0] rfl)
                                · skip
                                  refine lv_aload_n hxx hbb dX6_work_147 rfl (lv_at hl 1 rfl) ?_
                                  refine lv_iload_n hxx hbb dX6_work_148 rfl (lv_at hl 2 rfl) ?_
                                  refine lv_iload_n hxx hbb dX6_work_149 rfl (lv_at hl 3 rfl) ?_
                                  refine lv_iload_n hxx hbb dX6_work_150 rfl (lv_at hl 4 rfl) ?_
                                  refine ZI.callV S hK hP hS hB (kX6_costOf l G A Y5 n i j (by omega) (by omega) (by omega)) zwX6_139 zdX6_costOf rfl ⟨Nat.le_trans (by decide) hfr, Nat.le_trans (by decide) hlo⟩ (by decide) (zcK6 zk_102) rfl rfl (Nat.le_of_ble_eq_true rfl) hl.1 dX6_work_151 ⟨Nat.zero_le _, Nat.zero_le _⟩ (fun r_11 Y_12 H locs hq_13 hP hS => ?_)
                                  obtain ⟨hr9, hY9⟩ := hq_13
                                  have hr9 := hr9.trans ((hx5 _ _ (by omega) (by omega)).trans (by rw [mx_at]))
                                  subst hr9; rw [hY9] at hP
                                  refine lv_goto (tgt := 159) hxx hbb dX6_work_154 (by decide) ?_
                                  refine zastN S hK hP hS hB 113 15000 (by decide) zk_113 zl_113 (by omega) dX6_work_159 (fun H locs hP hS => ?_)
                                  refine lv_iinc (v := nI (j + 1)) (lv' := [(3, .int (nI (j + 1))), (4, .int (nI ((j - i) * ad))), (0, .ref (A 102)), (1, .int (nI n)), (2, .int (nI i))]) hxx hbb dX6_work_160 hl (k := 4) rfl (zinc1 _) (by decide) rfl (fun ls hl => ?_)
                                  refine lv_goto (tgt := 101) hxx hbb dX6_work_163 (by decide) ?_
                                  exact ih_101 (j + 1) (zU Y5 113 (625 * n + (25 * i) + j) (nI (V i j))) (by omega) (by omega) hk5.put ((zU_np (by decide)).trans h15) (ht5.put hlen (by omega) (by omega)) (by have e9 : C n i j = V i j := (by rw [hC, cCost_eq hl1 hr1, ← hC, ← hV, cStar, if_pos (by omega)]; first | rw [if_pos (by omega)] | rw [if_neg (by omega)]); rw [← e9]; exact hx5.put hlen (by omega) (by omega)) (by omega) _ _ _ hP hS (lv_sub hl [2, 3, 4, 0] rfl)
                          exact L_101 (_ + 1) i Y4 (by omega) (by omega) hk4 h14 ht4 (hx4.congr (fun a b h _ => mx_row a b h)) (Nat.lt_succ_self _) _ _ _ hP hS (lv_sub hl [1, 2, 3, 0] rfl)
                  exact L_81 (_ + 1) 0 Y2 (by omega) hk2 h12 ht2 ((hd2.all (by omega)).congr (fun a b _ _ => mx_0 a b)) (Nat.lt_succ_self _) _ _ _ hP hS (lv_sub hl [1, 2, 0] rfl)
                · skip
                  refine lv_iload_n hxx hbb dX6_work_33 rfl (lv_at hl 2 rfl) ?_
                  refine lv_istore_n (lv' := [(3, .int (nI i)), (0, .ref (A 102)), (1, .int (nI n)), (2, .int (nI i))]) hxx hbb dX6_work_34 rfl hl (by decide) rfl (fun ls hl => ?_)
                  have L_35 : ∀ (N_35 : Nat) (j : Nat) (Y3 : zY) (hij : i ≤ j) (hj : j ≤ len + 1) (hk3 : MK Y Y3) (h13 : Y3 102 21 = nI 1) (ht3 : TBn Y3 C len n) (hd3 : TBd Y3 V len n i j), len + 1 - j < N_35 → ∀ (H : Heap) (locs : List Loc) (ls : Array Slot), va_P G.1 vwCl (zW G A Y3) H → va_S (zAd A) s.heap H locs → lv_has ls 5 [(0, .ref (A 102)), (1, .int (nI n)), (2, .int (nI i)), (3, .int (nI j))] → W p l e R s m args below meth c H locs 0 0 Q (F0 m 35 ls []) := by
                    intro N_35
                    induction N_35 with
                    | zero => intro j Y3 hij hj hk3 h13 ht3 hd3 hm; exact absurd hm (Nat.not_lt_zero _)
                    | succ N_35 ih_35 =>
                      intro j Y3 hij hj hk3 h13 ht3 hd3 hm_35 H locs ls hP hS hl
                      refine lv_iload_n hxx hbb dX6_work_35 rfl (lv_at hl 3 rfl) ?_
                      refine lv_aload_n hxx hbb dX6_work_36 rfl (lv_at hl 0 rfl) ?_
                      refine zgX6_135 S hK hP 102 (by decide) zk_102 (v := nI len) ((hk3.2 _ (by decide)).trans hY19) dX6_work_37 ?_
                      refine zcmp_gt (tgt := 73) S (by omega) (by omega) dX6_work_40 (by decide) (fun c_14 => ?_) (fun c_14 => ?_)
                      · skip
                        refine lv_iinc (v := nI (i + 1)) (lv' := [(2, .int (nI (i + 1))), (0, .ref (A 102)), (1, .int (nI n)), (3, .int (nI j))]) hxx hbb dX6_work_73 hl (k := 2) rfl (zinc1 _) (by decide) rfl (fun ls hl => ?_)
                        refine lv_goto (tgt := 25) hxx hbb dX6_work_76 (by decide) ?_
                        exact ih_25 (i + 1) Y3 (by omega) hk3 h13 ht3 (hd3.next (by omega)) (by omega) _ _ _ hP hS (lv_sub hl [1, 2, 0] rfl)
                      · skip
                        refine lv_aload_n hxx hbb dX6_work_43 rfl (lv_at hl 0 rfl) ?_
                        refine zgX6_50 S hK hP 102 (by decide) zk_102 dX6_work_44 ?_
                        refine lv_sipush (v := nI 625) hxx hbb dX6_work_47 (by decide) ?_
                        refine lv_iload_n hxx hbb dX6_work_50 rfl (lv_at hl 1 rfl) ?_
                        refine zmulN S dX6_work_51 ?_
                        refine lv_bipush (v := nI 25) hxx hbb dX6_work_52 (by decide) ?_
                        refine lv_iload_n hxx hbb dX6_work_54 rfl (lv_at hl 2 rfl) ?_
                        refine zmulN S dX6_work_55 ?_
                        refine zaddN S dX6_work_56 ?_
                        refine lv_iload_n hxx hbb dX6_work_57 rfl (lv_at hl 3 rfl) ?_
                        refine zaddN S dX6_work_58 ?_
                        refine lv_aload_n hxx hbb dX6_work_59 rfl (lv_at hl 0 rfl) ?_
                        refine lv_iload_n hxx hbb dX6_work_60 rfl (lv_at hl 1 rfl) ?_
                        refine lv_iload_n hxx hbb dX6_work_61 rfl (lv_at hl 2 rfl) ?_
                        refine lv_iload_n hxx hbb dX6_work_62 rfl (lv_at hl 3 rfl) ?_
                        refine ZI.callV S hK hP hS hB (kX6_ofNode l G A Y3 n i j nn kd lf rt tx len ad mi wr C (hMC9.keep hk3) (by omega) (by omega) (by omega) (fun a i' j' h1 h2 h3 => ⟨ht3 a h1 i' j' h2 h3, hCle a (by omega) i' j' (by omega)⟩) (fun h k h1 h2 => ⟨(hd3 i k (by omega) (by omega) (by omega)).trans (by rw [hV, cNode_pl h]), cPl_le (hCle _ (hlf h) _ _ (by omega))⟩)) zwX6_156 zdX6_ofNode rfl ⟨Nat.le_trans (by decide) hfr, Nat.le_trans (by decide) hlo⟩ (by decide) (zcK6 zk_102) rfl rfl (Nat.le_of_ble_eq_true rfl) hl.1 dX6_work_63 ⟨Nat.zero_le _, Nat.zero_le _⟩ (fun r_15 Y_16 H locs hq_17 hP hS => ?_)
                        obtain ⟨hr9, hY9⟩ := hq_17
                        have hr9 := hr9.trans (show _ = nI (V i j) by rw [hV])
                        subst hr9; rw [hY9] at hP
                        refine zastN S hK hP hS hB 113 15000 (by decide) zk_113 zl_113 (by omega) dX6_work_66 (fun H locs hP hS => ?_)
                        refine lv_iinc (v := nI (j + 1)) (lv' := [(3, .int (nI (j + 1))), (0, .ref (A 102)), (1, .int (nI n)), (2, .int (nI i))]) hxx hbb dX6_work_67 hl (k := 3) rfl (zinc1 _) (by decide) rfl (fun ls hl => ?_)
                        refine lv_goto (tgt := 35) hxx hbb dX6_work_70 (by decide) ?_
                        exact ih_35 (j + 1) (zU Y3 113 (625 * n + (25 * i) + j) (nI (V i j))) (by omega) (by omega) hk3.put ((zU_np (by decide)).trans h13) (ht3.put hlen (by omega) (by omega)) (hd3.put hlen (by omega) (by omega)) (by omega) _ _ _ hP hS (lv_sub hl [1, 2, 3, 0] rfl)
                  exact L_35 (_ + 1) i Y2 (by omega) (by omega) hk2 h12 ht2 hd2.fst (Nat.lt_succ_self _) _ _ _ hP hS (lv_sub hl [1, 2, 3, 0] rfl)
            exact L_25 (_ + 1) 0 Y1 (by omega) hk1 h11 ht1 TBd.nil (Nat.lt_succ_self _) _ _ _ hP hS (lv_sub hl [1, 2, 0] rfl)
      exact L_15 (_ + 1) 0 (zU Y 102 21 (nI 1)) (by omega) MK.known zU_eq (fun a ha => absurd ha (Nat.not_lt_zero _)) (Nat.lt_succ_self _) _ _ _ hP hS (lv_sub hl [1, 0] rfl)
    · skip
      exact absurd c_1 (by decide)
  · skip
    refine lv_aload_n hxx hbb dX6_work_0 rfl (lv_at hl 0 rfl) ?_
    refine zgX6_128 S hK hP 102 (by decide) zk_102 (v := nI 1) (h21) dX6_work_1 ?_
    refine zif_eq (tgt := 8) S (by omega) dX6_work_4 (by decide) (fun c_18 => ?_) (fun c_18 => ?_)
    · skip
      exact absurd c_18 (by decide)
    · skip
      exact hret _ _ _ _ _ dX6_work_7 hP hS (⟨MK.rf, h21, hTB⟩)
