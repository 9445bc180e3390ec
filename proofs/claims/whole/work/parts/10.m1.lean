def cAdd (a b : Nat) : Nat := if 1000000 ≤ a ∨ 1000000 ≤ b then 1000000 else a + b
def sm (c : Nat) : Prop := 97 ≤ c ∧ c ≤ 122
def nx (s c d : Nat) : Option Nat :=
  if s = 2 ∨ s = 3 ∨ s = 4 then (if 97 ≤ c ∧ c ≤ 122 then some 4 else if s = 2 ∧ c = 94 then some 3 else if s = 4 ∧ c = 93 then some 1 else none)
  else if s = 5 then (if 48 ≤ c ∧ c ≤ 57 then some 6 else none)
  else if s = 6 ∧ 48 ≤ c ∧ c ≤ 57 then some 1
  else if (97 ≤ c ∧ c ≤ 122) ∨ c = 46 then some 1
  else if c = 91 then some 2
  else if c = 40 then (if d < 6 then some 0 else none)
  else if s = 0 then none
  else if c = 42 ∨ c = 43 ∨ c = 63 then some 1
  else if c = 60 then some 5 else if c = 124 then some 0 else if c = 41 ∧ 0 < d then some 1 else none
theorem zb_ok {x : Int32} (h1 : ¬ x < 0) (h2 : x ≤ nI 999) : 0 ≤ x ∧ x ≤ 999 := ⟨Int32.not_lt.mp h1, h2⟩
theorem zb_no {x : Int32} (h : x < 0 ∨ ¬ x ≤ nI 999) : ¬ (0 ≤ x ∧ x ≤ 999) := fun z => h.elim (fun q => absurd z.1 (Int32.not_le.mpr q)) (fun q => q z.2)
def wt (x : Int32) : Prop := 0 ≤ x ∧ x ≤ 9
theorem wt_ok {x : Int32} (h1 : ¬ x < 0) (h2 : ¬ nI 9 < x) : wt x := ⟨Int32.not_lt.mp h1, Int32.not_lt.mp h2⟩
theorem wt_ok' {x : Int32} (h1 : ¬ x < 0) (h2 : x ≤ nI 9) : wt x := ⟨Int32.not_lt.mp h1, h2⟩
theorem wt_n1 {x : Int32} (h : x < 0) : ¬ wt x := fun z => absurd z.1 (Int32.not_le.mpr h)
theorem wt_n2 {x : Int32} (h : nI 9 < x) : ¬ wt x := fun z => absurd z.2 (Int32.not_le.mpr h)
theorem wt_n3 {x : Int32} (h : ¬ x ≤ nI 9) : ¬ wt x := fun z => h z.2
set_option maxHeartbeats 4000000 in
set_option maxRecDepth 100000 in
theorem kX6_small (l : Launch) (G : zG) (A : Nat → Nat) (Y : zY) (k : Nat) (hk : k < 2 ^ 31) : ZI l yX6_small cX6_small 1 (.boolean) 0 0 G A Y [.int (nI k)] (fun r Y' => ((97 ≤ k ∧ k ≤ 122) ∧ r = nI 1 ∧ Y' = Y) ∨ (¬ (97 ≤ k ∧ k ≤ 122) ∧ r = nI 0 ∧ Y' = Y)) := by
  refine ZI.enter (by decide) (Nat.le_of_ble_eq_true rfl) ?_
  intro p e s m args below meth c R Q hxx hbb S hK hfr hlo hret H ls hP hS hl
  have hB : ∀ q, zAd A q → zAd A q := fun _ h => h
  have hl : lv_has ls 1 [(0, .int (nI k))] := hl
  have S : CallFix p m c cX6_small 1 s args wsL_law RX6 := S
  refine lv_iload_n hxx hbb dX6_small_0 rfl (lv_at hl 0 rfl) ?_
  refine lv_bipush (v := nI 97) hxx hbb dX6_small_1 (by decide) ?_
  refine zcmp_lt (tgt := 16) S (by omega) (by omega) dX6_small_3 (by decide) (fun c_1 => ?_) (fun c_1 => ?_)
  · skip
    refine lv_iconst (v := nI 0) hxx hbb dX6_small_16 (by decide) ?_
    exact hret _ _ _ _ _ _ dX6_small_17 (by first | rfl | decide) hP hS (Or.inr ⟨by omega, rfl, rfl⟩)
  · skip
    refine lv_iload_n hxx hbb dX6_small_6 rfl (lv_at hl 0 rfl) ?_
    refine lv_bipush (v := nI 122) hxx hbb dX6_small_7 (by decide) ?_
    refine zcmp_gt (tgt := 16) S (by omega) (by omega) dX6_small_9 (by decide) (fun c_2 => ?_) (fun c_2 => ?_)
    · skip
      refine lv_iconst (v := nI 0) hxx hbb dX6_small_16 (by decide) ?_
      exact hret _ _ _ _ _ _ dX6_small_17 (by first | rfl | decide) hP hS (Or.inr ⟨by omega, rfl, rfl⟩)
    · skip
      refine lv_iconst (v := nI 1) hxx hbb dX6_small_12 (by decide) ?_
      refine lv_goto (tgt := 17) hxx hbb dX6_small_13 (by decide) ?_
      exact hret _ _ _ _ _ _ dX6_small_17 (by first | rfl | decide) hP hS (Or.inl ⟨by omega, rfl, rfl⟩)

set_option maxHeartbeats 4000000 in
set_option maxRecDepth 100000 in
theorem kX6_sum (l : Launch) (G : zG) (A : Nat → Nat) (Y : zY) (a b : Nat) (ha : a < 2 ^ 30) (hb : b < 2 ^ 30) : ZI l yX6_sum cX6_sum 2 (.int) 0 0 G A Y [.int (nI a), .int (nI b)] (fun r Y' => r = nI (cAdd a b) ∧ Y' = Y) := by
  refine ZI.enter (by decide) (Nat.le_of_ble_eq_true rfl) ?_
  intro p e s m args below meth c R Q hxx hbb S hK hfr hlo hret H ls hP hS hl
  have hB : ∀ q, zAd A q → zAd A q := fun _ h => h
  have hl : lv_has ls 2 [(0, .int (nI a)), (1, .int (nI b))] := hl
  have S : CallFix p m c cX6_sum 2 s args wsL_law RX6 := S
  refine lv_iload_n hxx hbb dX6_sum_0 rfl (lv_at hl 0 rfl) ?_
  refine zldc S (v := 1000000) zxX6_138 dX6_sum_1 ?_
  rw [show (1000000 : Int32) = nI 1000000 from rfl]
  refine zcmp_ge (tgt := 12) S (by omega) (by omega) dX6_sum_3 (by decide) (fun c_1 => ?_) (fun c_1 => ?_)
  · skip
    refine zldc S (v := 1000000) zxX6_138 dX6_sum_12 ?_
    rw [show (1000000 : Int32) = nI 1000000 from rfl]
    refine lv_goto (tgt := 20) hxx hbb dX6_sum_14 (by decide) ?_
    exact hret _ _ _ _ _ _ dX6_sum_20 (rfl) hP hS (⟨by simp only [cAdd]; (repeat (first | rw [if_pos (by omega)] | rw [if_neg (by omega)])), rfl⟩)
  · skip
    refine lv_iload_n hxx hbb dX6_sum_6 rfl (lv_at hl 1 rfl) ?_
    refine zldc S (v := 1000000) zxX6_138 dX6_sum_7 ?_
    rw [show (1000000 : Int32) = nI 1000000 from rfl]
    refine zcmp_lt (tgt := 17) S (by omega) (by omega) dX6_sum_9 (by decide) (fun c_2 => ?_) (fun c_2 => ?_)
    · skip
      refine lv_iload_n hxx hbb dX6_sum_17 rfl (lv_at hl 0 rfl) ?_
      refine lv_iload_n hxx hbb dX6_sum_18 rfl (lv_at hl 1 rfl) ?_
      refine zaddN S dX6_sum_19 ?_
      exact hret _ _ _ _ _ _ dX6_sum_20 (rfl) hP hS (⟨by simp only [cAdd]; (repeat (first | rw [if_pos (by omega)] | rw [if_neg (by omega)])), rfl⟩)
    · skip
      refine zldc S (v := 1000000) zxX6_138 dX6_sum_12 ?_
      rw [show (1000000 : Int32) = nI 1000000 from rfl]
      refine lv_goto (tgt := 20) hxx hbb dX6_sum_14 (by decide) ?_
      exact hret _ _ _ _ _ _ dX6_sum_20 (rfl) hP hS (⟨by simp only [cAdd]; (repeat (first | rw [if_pos (by omega)] | rw [if_neg (by omega)])), rfl⟩)

set_option maxHeartbeats 4000000 in
set_option maxRecDepth 100000 in
theorem kX6_costOf (l : Launch) (G : zG) (A : Nat → Nat) (Y : zY) (n i j : Nat) (hn : n < 24) (hi : i ≤ 24) (hj : j ≤ 24) : ZI l yX6_costOf cX6_costOf 4 (.int) 0 0 G A Y [.ref (A 102), .int (nI n), .int (nI i), .int (nI j)] (fun r Y' => r = Y 113 (625 * n + 25 * i + j) ∧ Y' = Y) := by
  refine ZI.enter (by decide) (Nat.le_of_ble_eq_true rfl) ?_
  intro p e s m args below meth c R Q hxx hbb S hK hfr hlo hret H ls hP hS hl
  have hB : ∀ q, zAd A q → zAd A q := fun _ h => h
  have hl : lv_has ls 4 [(0, .ref (A 102)), (1, .int (nI n)), (2, .int (nI i)), (3, .int (nI j))] := hl
  have S : CallFix p m c cX6_costOf 4 s args wsL_law RX6 := S
  refine lv_aload_n hxx hbb dX6_costOf_0 rfl (lv_at hl 0 rfl) ?_
  refine zgX6_50 S hK hP 102 (by decide) zk_102 dX6_costOf_1 ?_
  refine lv_sipush (v := nI 625) hxx hbb dX6_costOf_4 (by decide) ?_
  refine lv_iload_n hxx hbb dX6_costOf_7 rfl (lv_at hl 1 rfl) ?_
  refine zmulN S dX6_costOf_8 ?_
  refine lv_bipush (v := nI 25) hxx hbb dX6_costOf_9 (by decide) ?_
  refine lv_iload_n hxx hbb dX6_costOf_11 rfl (lv_at hl 2 rfl) ?_
  refine zmulN S dX6_costOf_12 ?_
  refine zaddN S dX6_costOf_13 ?_
  refine lv_iload_n hxx hbb dX6_costOf_14 rfl (lv_at hl 3 rfl) ?_
  refine zaddN S dX6_costOf_15 ?_
  refine zaldN S hK hP 113 15000 (by decide) zk_113 zl_113 (by omega) (v := Y 113 (625 * n + (25 * i) + j)) (rfl) dX6_costOf_16 ?_
  exact hret _ _ _ _ _ _ dX6_costOf_17 (rfl) hP hS (⟨rfl, rfl⟩)

set_option maxHeartbeats 4000000 in
set_option maxRecDepth 100000 in
theorem kX6_changed (l : Launch) (G : zG) (A : Nat → Nat) (Y : zY)   : ZV l yX6_changed cX6_changed 1 0 0 G A Y [.ref (A 102)] (fun Y' => Y' = zU (zU (zU Y 102 21 (nI 0)) 102 23 (-1)) 102 24 (-1)) := by
  refine ZV.enter (by decide) (Nat.le_of_ble_eq_true rfl) ?_
  intro p e s m args below meth c R Q hxx hbb S hK hfr hlo hret H ls hP hS hl
  have hB : ∀ q, zAd A q → zAd A q := fun _ h => h
  have hl : lv_has ls 1 [(0, .ref (A 102))] := hl
  have S : CallFix p m c cX6_changed 1 s args wsL_law RX6 := S
  refine lv_aload_n hxx hbb dX6_changed_0 rfl (lv_at hl 0 rfl) ?_
  refine lv_iconst (v := nI 0) hxx hbb dX6_changed_1 (by decide) ?_
  refine zpX6_128 S hK hP hS hB 102 (by decide) zk_102 (by first | exact ⟨rfl, rfl⟩ | decide) dX6_changed_2 (fun H locs hP hS => ?_)
  refine lv_aload_n hxx hbb dX6_changed_5 rfl (lv_at hl 0 rfl) ?_
  refine lv_iconst (v := (-1)) hxx hbb dX6_changed_6 (by decide) ?_
  refine zpX6_53 S hK hP hS hB 102 (by decide) zk_102 dX6_changed_7 (fun H locs hP hS => ?_)
  refine lv_aload_n hxx hbb dX6_changed_10 rfl (lv_at hl 0 rfl) ?_
  refine lv_iconst (v := (-1)) hxx hbb dX6_changed_11 (by decide) ?_
  refine zpX6_56 S hK hP hS hB 102 (by decide) zk_102 dX6_changed_12 (fun H locs hP hS => ?_)
  exact hret _ _ _ _ _ dX6_changed_15 hP hS (rfl)

set_option maxHeartbeats 4000000 in
set_option maxRecDepth 100000 in
theorem kX6_nodes (l : Launch) (G : zG) (A : Nat → Nat) (Y : zY)   : ZI l yX6_nodes cX6_nodes 1 (.int) 0 0 G A Y [.ref (A 102)] (fun r Y' => r = Y 102 2 ∧ Y' = Y) := by
  refine ZI.enter (by decide) (Nat.le_of_ble_eq_true rfl) ?_
  intro p e s m args below meth c R Q hxx hbb S hK hfr hlo hret H ls hP hS hl
  have hB : ∀ q, zAd A q → zAd A q := fun _ h => h
  have hl : lv_has ls 1 [(0, .ref (A 102))] := hl
  have S : CallFix p m c cX6_nodes 1 s args wsL_law RX6 := S
  refine lv_aload_n hxx hbb dX6_nodes_0 rfl (lv_at hl 0 rfl) ?_
  refine zgX6_122 S hK hP 102 (by decide) zk_102 (v := Y 102 2) (rfl) dX6_nodes_1 ?_
  exact hret _ _ _ _ _ _ dX6_nodes_4 (rfl) hP hS (⟨rfl, rfl⟩)

set_option maxHeartbeats 4000000 in
set_option maxRecDepth 100000 in
theorem kX6_from (l : Launch) (G : zG) (A : Nat → Nat) (Y : zY)   : ZI l yX6_from cX6_from 1 (.int) 0 0 G A Y [.ref (A 102)] (fun r Y' => r = Y 102 23 ∧ Y' = Y) := by
  refine ZI.enter (by decide) (Nat.le_of_ble_eq_true rfl) ?_
  intro p e s m args below meth c R Q hxx hbb S hK hfr hlo hret H ls hP hS hl
  have hB : ∀ q, zAd A q → zAd A q := fun _ h => h
  have hl : lv_has ls 1 [(0, .ref (A 102))] := hl
  have S : CallFix p m c cX6_from 1 s args wsL_law RX6 := S
  refine lv_aload_n hxx hbb dX6_from_0 rfl (lv_at hl 0 rfl) ?_
  refine zgX6_53 S hK hP 102 (by decide) zk_102 (v := Y 102 23) (rfl) dX6_from_1 ?_
  exact hret _ _ _ _ _ _ dX6_from_4 (rfl) hP hS (⟨rfl, rfl⟩)

set_option maxHeartbeats 4000000 in
set_option maxRecDepth 100000 in
theorem kX6_to (l : Launch) (G : zG) (A : Nat → Nat) (Y : zY)   : ZI l yX6_to cX6_to 1 (.int) 0 0 G A Y [.ref (A 102)] (fun r Y' => r = Y 102 24 ∧ Y' = Y) := by
  refine ZI.enter (by decide) (Nat.le_of_ble_eq_true rfl) ?_
  intro p e s m args below meth c R Q hxx hbb S hK hfr hlo hret H ls hP hS hl
  have hB : ∀ q, zAd A q → zAd A q := fun _ h => h
  have hl : lv_has ls 1 [(0, .ref (A 102))] := hl
  have S : CallFix p m c cX6_to 1 s args wsL_law RX6 := S
  refine lv_aload_n hxx hbb dX6_to_0 rfl (lv_at hl 0 rfl) ?_
  refine zgX6_56 S hK hP 102 (by decide) zk_102 (v := Y 102 24) (rfl) dX6_to_1 ?_
  exact hret _ _ _ _ _ _ dX6_to_4 (rfl) hP hS (⟨rfl, rfl⟩)

set_option maxHeartbeats 4000000 in
set_option maxRecDepth 100000 in
theorem kX6_words (l : Launch) (G : zG) (A : Nat → Nat) (Y : zY)   : ZI l yX6_words cX6_words 1 (.int) 0 0 G A Y [.ref (A 102)] (fun r Y' => r = Y 102 25 ∧ Y' = Y) := by
  refine ZI.enter (by decide) (Nat.le_of_ble_eq_true rfl) ?_
  intro p e s m args below meth c R Q hxx hbb S hK hfr hlo hret H ls hP hS hl
  have hB : ∀ q, zAd A q → zAd A q := fun _ h => h
  have hl : lv_has ls 1 [(0, .ref (A 102))] := hl
  have S : CallFix p m c cX6_words 1 s args wsL_law RX6 := S
  refine lv_aload_n hxx hbb dX6_words_0 rfl (lv_at hl 0 rfl) ?_
  refine zgX6_173 S hK hP 102 (by decide) zk_102 (v := Y 102 25) (rfl) dX6_words_1 ?_
  exact hret _ _ _ _ _ _ dX6_words_4 (rfl) hP hS (⟨rfl, rfl⟩)

set_option maxHeartbeats 4000000 in
set_option maxRecDepth 100000 in
theorem kX6_type (l : Launch) (G : zG) (A : Nat → Nat) (Y : zY) (n k : Nat) (hn : n ≤ 40) (hk : k < 65536) (h0 : Y 102 0 = nI n) : ZI l yX6_type cX6_type 2 (.boolean) 0 0 G A Y [.ref (A 102), .int (nI k)] (fun r Y' => ((33 ≤ k ∧ k ≤ 126 ∧ n < 40) ∧ r = nI 1 ∧ Y' = zU (zU Y 103 n (nI k)) 102 0 (nI (n + 1))) ∨ (¬ (33 ≤ k ∧ k ≤ 126 ∧ n < 40) ∧ r = nI 0 ∧ Y' = Y)) := by
  refine ZI.enter (by decide) (Nat.le_of_ble_eq_true rfl) ?_
  intro p e s m args below meth c R Q hxx hbb S hK hfr hlo hret H ls hP hS hl
  have hB : ∀ q, zAd A q → zAd A q := fun _ h => h
  have hl : lv_has ls 2 [(0, .ref (A 102)), (1, .int (nI k))] := hl
  have S : CallFix p m c cX6_type 2 s args wsL_law RX6 := S
  refine lv_iload_n hxx hbb dX6_type_0 rfl (lv_at hl 1 rfl) ?_
  refine lv_bipush (v := nI 33) hxx hbb dX6_type_1 (by decide) ?_
  refine zcmp_lt (tgt := 21) S (by omega) (by omega) dX6_type_3 (by decide) (fun c_1 => ?_) (fun c_1 => ?_)
  · skip
    refine lv_iconst (v := nI 0) hxx hbb dX6_type_21 (by decide) ?_
    exact hret _ _ _ _ _ _ dX6_type_22 (by first | rfl | decide) hP hS (Or.inr ⟨by omega, rfl, rfl⟩)
  · skip
    refine lv_iload_n hxx hbb dX6_type_6 rfl (lv_at hl 1 rfl) ?_
    refine lv_bipush (v := nI 126) hxx hbb dX6_type_7 (by decide) ?_
    refine zcmp_gt (tgt := 21) S (by omega) (by omega) dX6_type_9 (by decide) (fun c_2 => ?_) (fun c_2 => ?_)
    · skip
      refine lv_iconst (v := nI 0) hxx hbb dX6_type_21 (by decide) ?_
      exact hret _ _ _ _ _ _ dX6_type_22 (by first | rfl | decide) hP hS (Or.inr ⟨by omega, rfl, rfl⟩)
    · skip
      refine lv_aload_n hxx hbb dX6_type_12 rfl (lv_at hl 0 rfl) ?_
      refine zgX6_68 S hK hP 102 (by decide) zk_102 (v := nI n) (h0) dX6_type_13 ?_
      refine lv_bipush (v := nI 40) hxx hbb dX6_type_16 (by decide) ?_
      refine zcmp_ne (tgt := 23) S (by omega) (by omega) dX6_type_18 (by decide) (fun c_3 => ?_) (fun c_3 => ?_)
      · skip
        refine lv_aload_n hxx hbb dX6_type_23 rfl (lv_at hl 0 rfl) ?_
        refine zgX6_7 S hK hP 102 (by decide) zk_102 dX6_type_24 ?_
        refine lv_aload_n hxx hbb dX6_type_27 rfl (lv_at hl 0 rfl) ?_
        refine zgX6_68 S hK hP 102 (by decide) zk_102 (v := nI n) (h0) dX6_type_28 ?_
        refine lv_iload_n hxx hbb dX6_type_31 rfl (lv_at hl 1 rfl) ?_
        refine zastN S hK hP hS hB 103 40 (by decide) zk_103 zl_103 (by omega) dX6_type_32 (fun H locs hP hS => ?_)
        refine lv_aload_n hxx hbb dX6_type_33 rfl (lv_at hl 0 rfl) ?_
        refine lv_dup hxx hbb dX6_type_34 rfl ?_
        refine zgX6_68 S hK hP 102 (by decide) zk_102 (v := nI n) ((zU_np (by decide)).trans (h0)) dX6_type_35 ?_
        refine lv_iconst (v := nI 1) hxx hbb dX6_type_38 (by decide) ?_
        refine zaddN S dX6_type_39 ?_
        refine zpX6_68 S hK hP hS hB 102 (by decide) zk_102 dX6_type_40 (fun H locs hP hS => ?_)
        refine lv_iconst (v := nI 1) hxx hbb dX6_type_43 (by decide) ?_
        exact hret _ _ _ _ _ _ dX6_type_44 (by first | rfl | decide) hP hS (Or.inl ⟨by omega, rfl, rfl⟩)
      · skip
        refine lv_iconst (v := nI 0) hxx hbb dX6_type_21 (by decide) ?_
        exact hret _ _ _ _ _ _ dX6_type_22 (by first | rfl | decide) hP hS (Or.inr ⟨by omega, rfl, rfl⟩)

set_option maxHeartbeats 4000000 in
set_option maxRecDepth 100000 in
theorem kX6_write (l : Launch) (G : zG) (A : Nat → Nat) (Y : zY) (n k : Nat) (hn : n ≤ 24) (hk : k < 65536) (h0 : Y 102 19 = nI n) : ZI l yX6_write cX6_write 2 (.boolean) 1 20 G A Y [.ref (A 102), .int (nI k)] (fun r Y' => (((97 ≤ k ∧ k ≤ 122) ∧ n < 24) ∧ r = nI 1 ∧ Y' = zU (zU (zU (zU (zU Y 112 n (nI k)) 102 19 (nI (n + 1))) 102 21 (nI 0)) 102 23 (-1)) 102 24 (-1)) ∨ (¬ ((97 ≤ k ∧ k ≤ 122) ∧ n < 24) ∧ r = nI 0 ∧ Y' = Y)) := by
  refine ZI.enter (by decide) (Nat.le_of_ble_eq_true rfl) ?_
  intro p e s m args below meth c R Q hxx hbb S hK hfr hlo hret H ls hP hS hl
  have hB : ∀ q, zAd A q → zAd A q := fun _ h => h
  have hl : lv_has ls 2 [(0, .ref (A 102)), (1, .int (nI k))] := hl
  have S : CallFix p m c cX6_write 2 s args wsL_law RX6 := S
  refine lv_iload_n hxx hbb dX6_write_0 rfl (lv_at hl 1 rfl) ?_
  refine ZI.callS S hK hP hS hB (kX6_small l G A Y k (by omega)) zwX6_71 zdX6_small rfl ⟨Nat.le_trans (by decide) hfr, Nat.le_trans (by decide) hlo⟩ rfl (Nat.le_of_ble_eq_true rfl) hl.1 dX6_write_1 ⟨Nat.zero_le _, Nat.zero_le _⟩ (fun r_1 Y_2 H locs hq_3 hP hS => ?_)
  rcases hq_3 with ⟨hb_4, hr9, hY9⟩ | ⟨hb_4, hr9, hY9⟩
  · skip
    subst hr9; rw [hY9] at hP
    refine zif_eq (tgt := 16) S (by omega) dX6_write_4 (by decide) (fun c_5 => ?_) (fun c_5 => ?_)
    · skip
      exact absurd c_5 (by decide)
    · skip
      refine lv_aload_n hxx hbb dX6_write_7 rfl (lv_at hl 0 rfl) ?_
      refine zgX6_135 S hK hP 102 (by decide) zk_102 (v := nI n) (h0) dX6_write_8 ?_
      refine lv_bipush (v := nI 24) hxx hbb dX6_write_11 (by decide) ?_
      refine zcmp_ne (tgt := 18) S (by omega) (by omega) dX6_write_13 (by decide) (fun c_6 => ?_) (fun c_6 => ?_)
      · skip
        refine lv_aload_n hxx hbb dX6_write_18 rfl (lv_at hl 0 rfl) ?_
        refine zgX6_47 S hK hP 102 (by decide) zk_102 dX6_write_19 ?_
        refine lv_aload_n hxx hbb dX6_write_22 rfl (lv_at hl 0 rfl) ?_
        refine zgX6_135 S hK hP 102 (by decide) zk_102 (v := nI n) (h0) dX6_write_23 ?_
        refine lv_iload_n hxx hbb dX6_write_26 rfl (lv_at hl 1 rfl) ?_
        refine zastN S hK hP hS hB 112 24 (by decide) zk_112 zl_112 (by omega) dX6_write_27 (fun H locs hP hS => ?_)
        refine lv_aload_n hxx hbb dX6_write_28 rfl (lv_at hl 0 rfl) ?_
        refine lv_dup hxx hbb dX6_write_29 rfl ?_
        refine zgX6_135 S hK hP 102 (by decide) zk_102 (v := nI n) ((zU_np (by decide)).trans (h0)) dX6_write_30 ?_
        refine lv_iconst (v := nI 1) hxx hbb dX6_write_33 (by decide) ?_
        refine zaddN S dX6_write_34 ?_
        refine zpX6_135 S hK hP hS hB 102 (by decide) zk_102 dX6_write_35 (fun H locs hP hS => ?_)
        refine lv_aload_n hxx hbb dX6_write_38 rfl (lv_at hl 0 rfl) ?_
        refine ZV.callV S hK hP hS hB (kX6_changed l G A (zU (zU Y 112 n (nI k)) 102 19 (nI (n + 1)))) zwX6_125 zdX6_changed rfl ⟨Nat.le_trans (by decide) hfr, Nat.le_trans (by decide) hlo⟩ (by decide) (zcK6 zk_102) rfl rfl (Nat.le_of_ble_eq_true rfl) hl.1 dX6_write_39 ⟨Nat.zero_le _, Nat.zero_le _⟩ (fun Y_8 H locs hq_9 hP hS => ?_)
        rw [hq_9] at hP
        refine lv_iconst (v := nI 1) hxx hbb dX6_write_42 (by decide) ?_
        exact hret _ _ _ _ _ _ dX6_write_43 (by first | rfl | decide) hP hS (Or.inl ⟨by omega, rfl, rfl⟩)
      · skip
        refine lv_iconst (v := nI 0) hxx hbb dX6_write_16 (by decide) ?_
        exact hret _ _ _ _ _ _ dX6_write_17 (by first | rfl | decide) hP hS (Or.inr ⟨by omega, rfl, rfl⟩)
  · skip
    subst hr9; rw [hY9] at hP
    refine zif_eq (tgt := 16) S (by omega) dX6_write_4 (by decide) (fun c_10 => ?_) (fun c_10 => ?_)
    · skip
      refine lv_iconst (v := nI 0) hxx hbb dX6_write_16 (by decide) ?_
      exact hret _ _ _ _ _ _ dX6_write_17 (by first | rfl | decide) hP hS (Or.inr ⟨by omega, rfl, rfl⟩)
    · skip
      exact absurd c_10 (by decide)

set_option maxHeartbeats 4000000 in
set_option maxRecDepth 100000 in
theorem kX6_erase (l : Launch) (G : zG) (A : Nat → Nat) (Y : zY)   : ZV l yX6_erase cX6_erase 1 1 20 G A Y [.ref (A 102)] (fun Y' => Y' = zU (zU (zU (zU Y 102 19 (nI 0)) 102 21 (nI 0)) 102 23 (-1)) 102 24 (-1)) := by
  refine ZV.enter (by decide) (Nat.le_of_ble_eq_true rfl) ?_
  intro p e s m args below meth c R Q hxx hbb S hK hfr hlo hret H ls hP hS hl
  have hB : ∀ q, zAd A q → zAd A q := fun _ h => h
  have hl : lv_has ls 1 [(0, .ref (A 102))] := hl
  have S : CallFix p m c cX6_erase 1 s args wsL_law RX6 := S
  refine lv_aload_n hxx hbb dX6_erase_0 rfl (lv_at hl 0 rfl) ?_
  refine lv_iconst (v := nI 0) hxx hbb dX6_erase_1 (by decide) ?_
  refine zpX6_135 S hK hP hS hB 102 (by decide) zk_102 dX6_erase_2 (fun H locs hP hS => ?_)
  refine lv_aload_n hxx hbb dX6_erase_5 rfl (lv_at hl 0 rfl) ?_
  refine ZV.callV S hK hP hS hB (kX6_changed l G A (zU Y 102 19 (nI 0))) zwX6_125 zdX6_changed rfl ⟨Nat.le_trans (by decide) hfr, Nat.le_trans (by decide) hlo⟩ (by decide) (zcK6 zk_102) rfl rfl (Nat.le_of_ble_eq_true rfl) hl.1 dX6_erase_6 ⟨Nat.zero_le _, Nat.zero_le _⟩ (fun Y_2 H locs hq_3 hP hS => ?_)
  rw [hq_3] at hP
  exact hret _ _ _ _ _ dX6_erase_9 hP hS (rfl)

set_option maxHeartbeats 4000000 in
set_option maxRecDepth 100000 in
theorem kX6_bound (l : Launch) (G : zG) (A : Nat → Nat) (Y : zY) (x : Int32)  : ZI l yX6_bound cX6_bound 2 (.boolean) 1 20 G A Y [.ref (A 102), .int x] (fun r Y' => ((0 ≤ x ∧ x ≤ 999) ∧ r = nI 1 ∧ Y' = zU (zU (zU (zU Y 102 18 x) 102 21 (nI 0)) 102 23 (-1)) 102 24 (-1)) ∨ (¬ (0 ≤ x ∧ x ≤ 999) ∧ r = nI 0 ∧ Y' = Y)) := by
  refine ZI.enter (by decide) (Nat.le_of_ble_eq_true rfl) ?_
  intro p e s m args below meth c R Q hxx hbb S hK hfr hlo hret H ls hP hS hl
  have hB : ∀ q, zAd A q → zAd A q := fun _ h => h
  have hl : lv_has ls 2 [(0, .ref (A 102)), (1, .int x)] := hl
  have S : CallFix p m c cX6_bound 2 s args wsL_law RX6 := S
  refine lv_iload_n hxx hbb dX6_bound_0 rfl (lv_at hl 1 rfl) ?_
  refine lv_if_lt (tgt := 11) hxx hbb dX6_bound_1 (by decide) (fun c_1 => ?_) (fun c_1 => ?_)
  · skip
    refine lv_iconst (v := nI 0) hxx hbb dX6_bound_11 (by decide) ?_
    exact hret _ _ _ _ _ _ dX6_bound_12 (by first | rfl | decide) hP hS (Or.inr ⟨zb_no (by first | exact Or.inl ‹_› | exact Or.inr ‹_›), rfl, rfl⟩)
  · skip
    refine lv_iload_n hxx hbb dX6_bound_4 rfl (lv_at hl 1 rfl) ?_
    refine lv_sipush (v := nI 999) hxx hbb dX6_bound_5 (by decide) ?_
    refine lv_icmp_le (tgt := 13) hxx hbb dX6_bound_8 (by decide) (fun c_2 => ?_) (fun c_2 => ?_)
    · skip
      refine lv_aload_n hxx hbb dX6_bound_13 rfl (lv_at hl 0 rfl) ?_
      refine lv_iload_n hxx hbb dX6_bound_14 rfl (lv_at hl 1 rfl) ?_
      refine zpX6_132 S hK hP hS hB 102 (by decide) zk_102 dX6_bound_15 (fun H locs hP hS => ?_)
      refine lv_aload_n hxx hbb dX6_bound_18 rfl (lv_at hl 0 rfl) ?_
      refine ZV.callV S hK hP hS hB (kX6_changed l G A (zU Y 102 18 x)) zwX6_125 zdX6_changed rfl ⟨Nat.le_trans (by decide) hfr, Nat.le_trans (by decide) hlo⟩ (by decide) (zcK6 zk_102) rfl rfl (Nat.le_of_ble_eq_true rfl) hl.1 dX6_bound_19 ⟨Nat.zero_le _, Nat.zero_le _⟩ (fun Y_4 H locs hq_5 hP hS => ?_)
      rw [hq_5] at hP
      refine lv_iconst (v := nI 1) hxx hbb dX6_bound_22 (by decide) ?_
      exact hret _ _ _ _ _ _ dX6_bound_23 (by first | rfl | decide) hP hS (Or.inl ⟨zb_ok ‹_› ‹_›, rfl, rfl⟩)
    · skip
      refine lv_iconst (v := nI 0) hxx hbb dX6_bound_11 (by decide) ?_
      exact hret _ _ _ _ _ _ dX6_bound_12 (by first | rfl | decide) hP hS (Or.inr ⟨zb_no (by first | exact Or.inl ‹_› | exact Or.inr ‹_›), rfl, rfl⟩)

set_option maxHeartbeats 4000000 in
set_option maxRecDepth 100000 in
theorem kX6_weights (l : Launch) (G : zG) (A : Nat → Nat) (Y : zY) (x y z : Int32)  : ZI l yX6_weights cX6_weights 4 (.boolean) 1 20 G A Y [.ref (A 102), .int x, .int y, .int z] (fun r Y' => ((wt x ∧ wt y ∧ wt z) ∧ r = nI 1 ∧ Y' = zU (zU (zU (zU (zU (zU Y 102 15 x) 102 16 y) 102 17 z) 102 21 (nI 0)) 102 23 (-1)) 102 24 (-1)) ∨ (¬ (wt x ∧ wt y ∧ wt z) ∧ r = nI 0 ∧ Y' = Y)) := by
  refine ZI.enter (by decide) (Nat.le_of_ble_eq_true rfl) ?_
  intro p e s m args below meth c R Q hxx hbb S hK hfr hlo hret H ls hP hS hl
  have hB : ∀ q, zAd A q → zAd A q := fun _ h => h
  have hl : lv_has ls 4 [(0, .ref (A 102)), (1, .int x), (2, .int y), (3, .int z)] := hl
  have S : CallFix p m c cX6_weights 4 s args wsL_law RX6 := S
  refine lv_iload_n hxx hbb dX6_weights_0 rfl (lv_at hl 1 rfl) ?_
  refine lv_if_lt (tgt := 30) hxx hbb dX6_weights_1 (by decide) (fun c_1 => ?_) (fun c_1 => ?_)
  · skip
    refine lv_iconst (v := nI 0) hxx hbb dX6_weights_30 (by decide) ?_
    exact hret _ _ _ _ _ _ dX6_weights_31 (by first | rfl | decide) hP hS (Or.inr ⟨by first | exact fun z => wt_n1 ‹_› z.1 | exact fun z => wt_n2 ‹_› z.1 | exact fun z => wt_n1 ‹_› z.2.1 | exact fun z => wt_n2 ‹_› z.2.1 | exact fun z => wt_n1 ‹_› z.2.2 | exact fun z => wt_n3 ‹_› z.2.2, rfl, rfl⟩)
  · skip
    refine lv_iload_n hxx hbb dX6_weights_4 rfl (lv_at hl 1 rfl) ?_
    refine lv_bipush (v := nI 9) hxx hbb dX6_weights_5 (by decide) ?_
    refine lv_icmp_gt (tgt := 30) hxx hbb dX6_weights_7 (by decide) (fun c_2 => ?_) (fun c_2 => ?_)
    · skip
      refine lv_iconst (v := nI 0) hxx hbb dX6_weights_30 (by decide) ?_
      exact hret _ _ _ _ _ _ dX6_weights_31 (by first | rfl | decide) hP hS (Or.inr ⟨by first | exact fun z => wt_n1 ‹_› z.1 | exact fun z => wt_n2 ‹_› z.1 | exact fun z => wt_n1 ‹_› z.2.1 | exact fun z => wt_n2 ‹_› z.2.1 | exact fun z => wt_n1 ‹_› z.2.2 | exact fun z => wt_n3 ‹_› z.2.2, rfl, rfl⟩)
    · skip
      refine lv_iload_n hxx hbb dX6_weights_10 rfl (lv_at hl 2 rfl) ?_
      refine lv_if_lt (tgt := 30) hxx hbb dX6_weights_11 (by decide) (fun c_3 => ?_) (fun c_3 => ?_)
      · skip
        refine lv_iconst (v := nI 0) hxx hbb dX6_weights_30 (by decide) ?_
        exact hret _ _ _ _ _ _ dX6_weights_31 (by first | rfl | decide) hP hS (Or.inr ⟨by first | exact fun z => wt_n1 ‹_› z.1 | exact fun z => wt_n2 ‹_› z.1 | exact fun z => wt_n1 ‹_› z.2.1 | exact fun z => wt_n2 ‹_› z.2.1 | exact fun z => wt_n1 ‹_› z.2.2 | exact fun z => wt_n3 ‹_› z.2.2, rfl, rfl⟩)
      · skip
        refine lv_iload_n hxx hbb dX6_weights_14 rfl (lv_at hl 2 rfl) ?_
        refine lv_bipush (v := nI 9) hxx hbb dX6_weights_15 (by decide) ?_
        refine lv_icmp_gt (tgt := 30) hxx hbb dX6_weights_17 (by decide) (fun c_4 => ?_) (fun c_4 => ?_)
        · skip
          refine lv_iconst (v := nI 0) hxx hbb dX6_weights_30 (by decide) ?_
          exact hret _ _ _ _ _ _ dX6_weights_31 (by first | rfl | decide) hP hS (Or.inr ⟨by first | exact fun z => wt_n1 ‹_› z.1 | exact fun z => wt_n2 ‹_› z.1 | exact fun z => wt_n1 ‹_› z.2.1 | exact fun z => wt_n2 ‹_› z.2.1 | exact fun z => wt_n1 ‹_› z.2.2 | exact fun z => wt_n3 ‹_› z.2.2, rfl, rfl⟩)
        · skip
          refine lv_iload_n hxx hbb dX6_weights_20 rfl (lv_at hl 3 rfl) ?_
          refine lv_if_lt (tgt := 30) hxx hbb dX6_weights_21 (by decide) (fun c_5 => ?_) (fun c_5 => ?_)
          · skip
            refine lv_iconst (v := nI 0) hxx hbb dX6_weights_30 (by decide) ?_
            exact hret _ _ _ _ _ _ dX6_weights_31 (by first | rfl | decide) hP hS (Or.inr ⟨by first | exact fun z => wt_n1 ‹_› z.1 | exact fun z => wt_n2 ‹_› z.1 | exact fun z => wt_n1 ‹_› z.2.1 | exact fun z => wt_n2 ‹_› z.2.1 | exact fun z => wt_n1 ‹_› z.2.2 | exact fun z => wt_n3 ‹_› z.2.2, rfl, rfl⟩)
          · skip
            refine lv_iload_n hxx hbb dX6_weights_24 rfl (lv_at hl 3 rfl) ?_
            refine lv_bipush (v := nI 9) hxx hbb dX6_weights_25 (by decide) ?_
            refine lv_icmp_le (tgt := 32) hxx hbb dX6_weights_27 (by decide) (fun c_6 => ?_) (fun c_6 => ?_)
            · skip
              refine lv_aload_n hxx hbb dX6_weights_32 rfl (lv_at hl 0 rfl) ?_
              refine lv_iload_n hxx hbb dX6_weights_33 rfl (lv_at hl 1 rfl) ?_
              refine zpX6_37 S hK hP hS hB 102 (by decide) zk_102 dX6_weights_34 (fun H locs hP hS => ?_)
              refine lv_aload_n hxx hbb dX6_weights_37 rfl (lv_at hl 0 rfl) ?_
              refine lv_iload_n hxx hbb dX6_weights_38 rfl (lv_at hl 2 rfl) ?_
              refine zpX6_41 S hK hP hS hB 102 (by decide) zk_102 dX6_weights_39 (fun H locs hP hS => ?_)
              refine lv_aload_n hxx hbb dX6_weights_42 rfl (lv_at hl 0 rfl) ?_
              refine lv_iload_n hxx hbb dX6_weights_43 rfl (lv_at hl 3 rfl) ?_
              refine zpX6_44 S hK hP hS hB 102 (by decide) zk_102 dX6_weights_44 (fun H locs hP hS => ?_)
              refine lv_aload_n hxx hbb dX6_weights_47 rfl (lv_at hl 0 rfl) ?_
              refine ZV.callV S hK hP hS hB (kX6_changed l G A (zU (zU (zU Y 102 15 x) 102 16 y) 102 17 z)) zwX6_125 zdX6_changed rfl ⟨Nat.le_trans (by decide) hfr, Nat.le_trans (by decide) hlo⟩ (by decide) (zcK6 zk_102) rfl rfl (Nat.le_of_ble_eq_true rfl) hl.1 dX6_weights_48 ⟨Nat.zero_le _, Nat.zero_le _⟩ (fun Y_8 H locs hq_9 hP hS => ?_)
              rw [hq_9] at hP
              refine lv_iconst (v := nI 1) hxx hbb dX6_weights_51 (by decide) ?_
              exact hret _ _ _ _ _ _ dX6_weights_52 (by first | rfl | decide) hP hS (Or.inl ⟨⟨wt_ok ‹_› ‹_›, wt_ok ‹_› ‹_›, wt_ok' ‹_› ‹_›⟩, rfl, rfl⟩)
            · skip
              refine lv_iconst (v := nI 0) hxx hbb dX6_weights_30 (by decide) ?_
              exact hret _ _ _ _ _ _ dX6_weights_31 (by first | rfl | decide) hP hS (Or.inr ⟨by first | exact fun z => wt_n1 ‹_› z.1 | exact fun z => wt_n2 ‹_› z.1 | exact fun z => wt_n1 ‹_› z.2.1 | exact fun z => wt_n2 ‹_› z.2.1 | exact fun z => wt_n1 ‹_› z.2.2 | exact fun z => wt_n3 ‹_› z.2.2, rfl, rfl⟩)
