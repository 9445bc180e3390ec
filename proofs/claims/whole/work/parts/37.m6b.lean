theorem MS.lo {N lv : Nat} {Y : zY} {S : nY} (h : MS N Y S lv) (hd : S 0 1 ≤ 6) : S 0 2 + wT S + lv ≤ N ∧ wT S ≤ 14 ∧ qT S ≤ 20 := by
  have h1 := (wb_le (S := S) (S 0 1)).1
  have h2 := (wb_le (S := S) (S 0 1)).2
  have h3 := b1_le (S 6 (S 0 1)); have h4 := b1_le (S 5 (S 0 1))
  refine ⟨h.2.2.2.2.2, ?_, ?_⟩
  · unfold wT; omega
  · unfold qT; omega
/-- a row, a choice, a bracket on top -/
theorem MS.tR {N : Nat} {Y : zY} {S : nY} (h : MS N Y S 1) (g : S 5 (S 0 1) ≠ 0) : 1 ≤ qT S ∧ 1 ≤ wT S ∧ Y 110 (qT S - 1) = nI 1 ∧ Y 111 (wT S - 1) = nI (S 5 (S 0 1) - 1) ∧ Y 111 (wT S) = nI (S 4 (S 0 1) - 1) := by
  have hb := b1_p g
  have h5 := h.2.2.2.1.2 g
  have hq : qT S - 1 = qb S (S 0 1) + b1 (S 6 (S 0 1)) := by unfold qT; omega
  have hw : wT S - 1 = wb S (S 0 1) + b1 (S 6 (S 0 1)) := by unfold wT; omega
  refine ⟨by unfold qT; omega, by unfold wT; omega, by rw [hq]; exact h5.2, by rw [hw]; exact h5.1, h.2.2.2.2.1 rfl⟩
theorem MS.tO {N : Nat} {Y : zY} {S : nY} (h : MS N Y S 1) (g5 : S 5 (S 0 1) = 0) (g : S 6 (S 0 1) ≠ 0) : 1 ≤ qT S ∧ 1 ≤ wT S ∧ Y 110 (qT S - 1) = nI 2 ∧ Y 111 (wT S - 1) = nI (S 6 (S 0 1) - 1) ∧ Y 111 (wT S) = nI (S 4 (S 0 1) - 1) := by
  have hb := b1_p g
  have h0 := b1_0 g5
  have h6 := h.2.2.2.1.1 g
  have hq : qT S - 1 = qb S (S 0 1) := by unfold qT; omega
  have hw : wT S - 1 = wb S (S 0 1) := by unfold wT; omega
  refine ⟨by unfold qT; omega, by unfold wT; omega, by rw [hq]; exact h6.2, by rw [hw]; exact h6.1, h.2.2.2.2.1 rfl⟩
theorem MS.tB {N lv : Nat} {Y : zY} {S : nY} (h : MS N Y S lv) (g5 : S 5 (S 0 1) = 0) (g6 : S 6 (S 0 1) = 0) : (S 0 1 = 0 ∧ qT S = 0) ∨ (1 ≤ S 0 1 ∧ 1 ≤ qT S ∧ Y 110 (qT S - 1) = nI 7) := by
  have h0 := b1_0 g5
  have h1 := b1_0 g6
  by_cases g : S 0 1 = 0
  · refine Or.inl ⟨g, ?_⟩
    have e : qT S = qb S (S 0 1) := by unfold qT; omega
    rw [e, g]; rfl
  · have h7 := (h.2.2.1 (S 0 1 - 1) (by omega)).2
    have e : qT S = qb S (S 0 1 - 1 + 1) := by unfold qT; rw [Nat.sub_add_cancel (by omega)]; omega
    have e2 : qb S (S 0 1 - 1 + 1) = qb S (S 0 1 - 1) + b1 (S 6 (S 0 1 - 1)) + b1 (S 5 (S 0 1 - 1)) + 1 := rfl
    refine Or.inr ⟨by omega, by omega, ?_⟩
    rw [e, e2, Nat.add_sub_cancel]; exact h7
set_option maxHeartbeats 4000000 in
set_option maxRecDepth 100000 in
theorem kX6_make (l : Launch) (G : zG) (A : Nat → Nat) (Y : zY) (f9 w9 : Nat) (x1 x2 x3 : Int32) (h6 : Y 102 6 = nI f9) (hf9 : f9 < 80) (h12 : Y 102 12 = nI w9) (hw9 : w9 < 80) : ZV l yX6_make cX6_make 4 0 0 G A Y [.ref (A 102), .int x1, .int x2, .int x3] (fun Y' => MKp Y Y' f9 w9 x1 x2 x3) := by
  refine ZV.enter (by decide) (Nat.le_of_ble_eq_true rfl) ?_
  intro p e s m args below meth c R Q hxx hbb S hK hfr hlo hret H ls hP hS hl
  have hB : ∀ q, zAd A q → zAd A q := fun _ h => h
  have hl : lv_has ls 4 [(0, .ref (A 102)), (1, .int x1), (2, .int x2), (3, .int x3)] := hl
  have S : CallFix p m c cX6_make 4 s args wsL_law RX6 := S
  refine lv_aload_n hxx hbb dX6_make_0 rfl (lv_at hl 0 rfl) ?_
  refine zgX6_22 S hK hP 102 (by decide) zk_102 dX6_make_1 ?_
  refine lv_aload_n hxx hbb dX6_make_4 rfl (lv_at hl 0 rfl) ?_
  refine zgX6_79 S hK hP 102 (by decide) zk_102 (v := nI f9) (h6) dX6_make_5 ?_
  refine lv_iload_n hxx hbb dX6_make_8 rfl (lv_at hl 1 rfl) ?_
  refine zastN S hK hP hS hB 107 80 (by decide) zk_107 zl_107 (by omega) dX6_make_9 (fun H locs hP hS => ?_)
  refine lv_aload_n hxx hbb dX6_make_10 rfl (lv_at hl 0 rfl) ?_
  refine zgX6_25 S hK hP 102 (by decide) zk_102 dX6_make_11 ?_
  refine lv_aload_n hxx hbb dX6_make_14 rfl (lv_at hl 0 rfl) ?_
  refine zgX6_79 S hK hP 102 (by decide) zk_102 (v := nI f9) ((zU_np (by decide)).trans (h6)) dX6_make_15 ?_
  refine lv_iload_n hxx hbb dX6_make_18 rfl (lv_at hl 2 rfl) ?_
  refine zastN S hK hP hS hB 108 80 (by decide) zk_108 zl_108 (by omega) dX6_make_19 (fun H locs hP hS => ?_)
  refine lv_aload_n hxx hbb dX6_make_20 rfl (lv_at hl 0 rfl) ?_
  refine zgX6_28 S hK hP 102 (by decide) zk_102 dX6_make_21 ?_
  refine lv_aload_n hxx hbb dX6_make_24 rfl (lv_at hl 0 rfl) ?_
  refine zgX6_79 S hK hP 102 (by decide) zk_102 (v := nI f9) ((zU_np (by decide)).trans ((zU_np (by decide)).trans (h6))) dX6_make_25 ?_
  refine lv_iload_n hxx hbb dX6_make_28 rfl (lv_at hl 3 rfl) ?_
  refine zastN S hK hP hS hB 109 80 (by decide) zk_109 zl_109 (by omega) dX6_make_29 (fun H locs hP hS => ?_)
  refine lv_aload_n hxx hbb dX6_make_30 rfl (lv_at hl 0 rfl) ?_
  refine zgX6_34 S hK hP 102 (by decide) zk_102 dX6_make_31 ?_
  refine lv_aload_n hxx hbb dX6_make_34 rfl (lv_at hl 0 rfl) ?_
  refine zgX6_82 S hK hP 102 (by decide) zk_102 (v := nI w9) ((zU_np (by decide)).trans ((zU_np (by decide)).trans ((zU_np (by decide)).trans (h12)))) dX6_make_35 ?_
  refine lv_aload_n hxx hbb dX6_make_38 rfl (lv_at hl 0 rfl) ?_
  refine zgX6_79 S hK hP 102 (by decide) zk_102 (v := nI f9) ((zU_np (by decide)).trans ((zU_np (by decide)).trans ((zU_np (by decide)).trans (h6)))) dX6_make_39 ?_
  refine zastN S hK hP hS hB 111 80 (by decide) zk_111 zl_111 (by omega) dX6_make_42 (fun H locs hP hS => ?_)
  refine lv_aload_n hxx hbb dX6_make_43 rfl (lv_at hl 0 rfl) ?_
  refine lv_dup hxx hbb dX6_make_44 rfl ?_
  refine zgX6_82 S hK hP 102 (by decide) zk_102 (v := nI w9) ((zU_np (by decide)).trans ((zU_np (by decide)).trans ((zU_np (by decide)).trans ((zU_np (by decide)).trans (h12))))) dX6_make_45 ?_
  refine lv_iconst (v := nI 1) hxx hbb dX6_make_48 (by decide) ?_
  refine zaddN S dX6_make_49 ?_
  refine zpX6_82 S hK hP hS hB 102 (by decide) zk_102 dX6_make_50 (fun H locs hP hS => ?_)
  refine lv_aload_n hxx hbb dX6_make_53 rfl (lv_at hl 0 rfl) ?_
  refine lv_dup hxx hbb dX6_make_54 rfl ?_
  refine zgX6_79 S hK hP 102 (by decide) zk_102 (v := nI f9) ((zU_nj (by decide)).trans ((zU_np (by decide)).trans ((zU_np (by decide)).trans ((zU_np (by decide)).trans ((zU_np (by decide)).trans (h6)))))) dX6_make_55 ?_
  refine lv_iconst (v := nI 1) hxx hbb dX6_make_58 (by decide) ?_
  refine zaddN S dX6_make_59 ?_
  refine zpX6_79 S hK hP hS hB 102 (by decide) zk_102 dX6_make_60 (fun H locs hP hS => ?_)
  exact hret _ _ _ _ _ dX6_make_63 hP hS (MKp.is)

set_option maxHeartbeats 4000000 in
set_option maxRecDepth 100000 in
theorem kX6_hold (l : Launch) (G : zG) (A : Nat → Nat) (Y : zY) (q9 k9 : Nat) (h10 : Y 102 10 = nI q9) (hq9 : q9 < 80) : ZV l yX6_hold cX6_hold 2 0 0 G A Y [.ref (A 102), .int (nI k9)] (fun Y' => Y' = zU (zU Y 110 q9 (nI k9)) 102 10 (nI (q9 + 1))) := by
  refine ZV.enter (by decide) (Nat.le_of_ble_eq_true rfl) ?_
  intro p e s m args below meth c R Q hxx hbb S hK hfr hlo hret H ls hP hS hl
  have hB : ∀ q, zAd A q → zAd A q := fun _ h => h
  have hl : lv_has ls 2 [(0, .ref (A 102)), (1, .int (nI k9))] := hl
  have S : CallFix p m c cX6_hold 2 s args wsL_law RX6 := S
  refine lv_aload_n hxx hbb dX6_hold_0 rfl (lv_at hl 0 rfl) ?_
  refine zgX6_31 S hK hP 102 (by decide) zk_102 dX6_hold_1 ?_
  refine lv_aload_n hxx hbb dX6_hold_4 rfl (lv_at hl 0 rfl) ?_
  refine zgX6_85 S hK hP 102 (by decide) zk_102 (v := nI q9) (h10) dX6_hold_5 ?_
  refine lv_iload_n hxx hbb dX6_hold_8 rfl (lv_at hl 1 rfl) ?_
  refine zastN S hK hP hS hB 110 80 (by decide) zk_110 zl_110 (by omega) dX6_hold_9 (fun H locs hP hS => ?_)
  refine lv_aload_n hxx hbb dX6_hold_10 rfl (lv_at hl 0 rfl) ?_
  refine lv_dup hxx hbb dX6_hold_11 rfl ?_
  refine zgX6_85 S hK hP 102 (by decide) zk_102 (v := nI q9) ((zU_np (by decide)).trans (h10)) dX6_hold_12 ?_
  refine lv_iconst (v := nI 1) hxx hbb dX6_hold_15 (by decide) ?_
  refine zaddN S dX6_hold_16 ?_
  refine zpX6_85 S hK hP hS hB 102 (by decide) zk_102 dX6_hold_17 (fun H locs hP hS => ?_)
  exact hret _ _ _ _ _ dX6_hold_20 hP hS (rfl)

set_option maxHeartbeats 4000000 in
set_option maxRecDepth 100000 in
theorem kX6_join (l : Launch) (G : zG) (A : Nat → Nat) (Y : zY) (a9 : Nat) (T9 : nY) (N : Nat) (hMS : MS N Y T9 1) (hN : N ≤ 80) (hdT : T9 0 1 ≤ 6) (ha9 : a9 = 1 ∨ a9 = 2) : ZV l yX6_join cX6_join 4 1 23 G A Y [.ref (A 102), .int (nI a9)] (fun Y' => MS N Y' (sJ a9 T9) 1 ∧ MF Y Y') := by
  refine ZV.enter (by decide) (Nat.le_of_ble_eq_true rfl) ?_
  intro p e s m args below meth c R Q hxx hbb S hK hfr hlo hret H ls hP hS hl
  have hB : ∀ q, zAd A q → zAd A q := fun _ h => h
  have hl : lv_has ls 4 [(0, .ref (A 102)), (1, .int (nI a9))] := hl
  have S : CallFix p m c cX6_join 4 s args wsL_law RX6 := S
  have L_0 : ∀ (N_0 : Nat) (T1 : nY) (Y1 : zY) (hMS : MS N Y1 T1 1) (hMF : MF Y Y1) (hT : sJ a9 T1 = sJ a9 T9) (hdT : T1 0 1 ≤ 6) (hme : b1 (T1 5 (T1 0 1)) + b1 (T1 6 (T1 0 1)) ≤ 2), b1 (T1 5 (T1 0 1)) + b1 (T1 6 (T1 0 1)) < N_0 → ∀ (H : Heap) (locs : List Loc) (ls : Array Slot), va_P G.1 vwCl (zW G A Y1) H → va_S (zAd A) s.heap H locs → lv_has ls 4 [(0, .ref (A 102)), (1, .int (nI a9))] → W p l e R s m args below meth c H locs 0 0 Q (F0 m 0 ls []) := by
    intro N_0
    induction N_0 with
    | zero => intro T1 Y1 hMS hMF hT hdT hme hm; exact absurd hm (Nat.not_lt_zero _)
    | succ N_0 ih_0 =>
      intro T1 Y1 hMS hMF hT hdT hme hm_0 H locs ls hP hS hl
      obtain ⟨hlo1, hlo2, hlo3⟩ := hMS.lo hdT
      by_cases h5 : T1 5 (T1 0 1) = 0
      · skip
        by_cases h6 : T1 6 (T1 0 1) = 0
        · skip
          rcases hMS.tB h5 h6 with ⟨hd0, hq0⟩ | ⟨hd0, hq0, hv1⟩
          · skip
            refine lv_aload_n hxx hbb dX6_join_0 rfl (lv_at hl 0 rfl) ?_
            refine zgX6_85 S hK hP 102 (by decide) zk_102 (v := nI (qT T1)) (hMS.2.1.1) dX6_join_1 ?_
            refine zif_le (tgt := 103) S (by omega) dX6_join_4 (by decide) (fun c_1 => ?_) (fun c_1 => ?_)
            · skip
              exact hret _ _ _ _ _ dX6_join_103 hP hS (⟨by rw [← hT, sJ_z h5 (fun _ => h6)]; exact hMS, hMF⟩)
            · skip
              exfalso; omega
          · skip
            refine lv_aload_n hxx hbb dX6_join_0 rfl (lv_at hl 0 rfl) ?_
            refine zgX6_85 S hK hP 102 (by decide) zk_102 (v := nI (qT T1)) (hMS.2.1.1) dX6_join_1 ?_
            refine zif_le (tgt := 103) S (by omega) dX6_join_4 (by decide) (fun c_2 => ?_) (fun c_2 => ?_)
            · skip
              exact hret _ _ _ _ _ dX6_join_103 hP hS (⟨by rw [← hT, sJ_z h5 (fun _ => h6)]; exact hMS, hMF⟩)
            · skip
              refine lv_aload_n hxx hbb dX6_join_7 rfl (lv_at hl 0 rfl) ?_
              refine zgX6_31 S hK hP 102 (by decide) zk_102 dX6_join_8 ?_
              refine lv_aload_n hxx hbb dX6_join_11 rfl (lv_at hl 0 rfl) ?_
              refine zgX6_85 S hK hP 102 (by decide) zk_102 (v := nI (qT T1)) (hMS.2.1.1) dX6_join_12 ?_
              refine lv_iconst (v := nI 1) hxx hbb dX6_join_15 (by decide) ?_
              refine zsubN S (by omega) dX6_join_16 ?_
              refine zaldN S hK hP 110 80 (by decide) zk_110 zl_110 (by omega) (v := nI 7) (hv1) dX6_join_17 ?_
              refine lv_bipush (v := nI 7) hxx hbb dX6_join_18 (by decide) ?_
              refine zcmp_eq (tgt := 103) S (by omega) (by omega) dX6_join_20 (by decide) (fun c_3 => ?_) (fun c_3 => ?_)
              · skip
                exact hret _ _ _ _ _ dX6_join_103 hP hS (⟨by rw [← hT, sJ_z h5 (fun _ => h6)]; exact hMS, hMF⟩)
              · skip
                exact absurd c_3 (by decide)
        · skip
          obtain ⟨hq1, hw1, hv1, hv2, hv3⟩ := hMS.tO h5 h6
          have hw2 : wT T1 + 1 - 2 = wT T1 - 1 := by omega
          have hw3 : wT T1 - 1 + 1 = wT T1 := by omega
          refine lv_aload_n hxx hbb dX6_join_0 rfl (lv_at hl 0 rfl) ?_
          refine zgX6_85 S hK hP 102 (by decide) zk_102 (v := nI (qT T1)) (hMS.2.1.1) dX6_join_1 ?_
          refine zif_le (tgt := 103) S (by omega) dX6_join_4 (by decide) (fun c_4 => ?_) (fun c_4 => ?_)
          · skip
            exact hret _ _ _ _ _ dX6_join_103 hP hS (⟨by rw [← hT, sJ_z h5 (fun z => by exfalso; omega)]; exact hMS, hMF⟩)
          · skip
            refine lv_aload_n hxx hbb dX6_join_7 rfl (lv_at hl 0 rfl) ?_
            refine zgX6_31 S hK hP 102 (by decide) zk_102 dX6_join_8 ?_
            refine lv_aload_n hxx hbb dX6_join_11 rfl (lv_at hl 0 rfl) ?_
            refine zgX6_85 S hK hP 102 (by decide) zk_102 (v := nI (qT T1)) (hMS.2.1.1) dX6_join_12 ?_
            refine lv_iconst (v := nI 1) hxx hbb dX6_join_15 (by decide) ?_
            refine zsubN S (by omega) dX6_join_16 ?_
            refine zaldN S hK hP 110 80 (by decide) zk_110 zl_110 (by omega) (v := nI 2) (hv1) dX6_join_17 ?_
            refine lv_bipush (v := nI 7) hxx hbb dX6_join_18 (by decide) ?_
            refine zcmp_eq (tgt := 103) S (by omega) (by omega) dX6_join_20 (by decide) (fun c_5 => ?_) (fun c_5 => ?_)
            · skip
              exact absurd c_5 (by decide)
            · skip
              refine lv_aload_n hxx hbb dX6_join_23 rfl (lv_at hl 0 rfl) ?_
              refine zgX6_31 S hK hP 102 (by decide) zk_102 dX6_join_24 ?_
              refine lv_aload_n hxx hbb dX6_join_27 rfl (lv_at hl 0 rfl) ?_
              refine zgX6_85 S hK hP 102 (by decide) zk_102 (v := nI (qT T1)) (hMS.2.1.1) dX6_join_28 ?_
              refine lv_iconst (v := nI 1) hxx hbb dX6_join_31 (by decide) ?_
              refine zsubN S (by omega) dX6_join_32 ?_
              refine zaldN S hK hP 110 80 (by decide) zk_110 zl_110 (by omega) (v := nI 2) (hv1) dX6_join_33 ?_
              refine lv_iconst (v := nI 1) hxx hbb dX6_join_34 (by decide) ?_
              refine zcmp_eq (tgt := 43) S (by omega) (by omega) dX6_join_35 (by decide) (fun c_6 => ?_) (fun c_6 => ?_)
              · skip
                exact absurd c_6 (by decide)
              · skip
                refine lv_iload_n hxx hbb dX6_join_38 rfl (lv_at hl 1 rfl) ?_
                refine lv_iconst (v := nI 2) hxx hbb dX6_join_39 (by decide) ?_
                refine zcmp_ne (tgt := 103) S (by omega) (by omega) dX6_join_40 (by decide) (fun c_7 => ?_) (fun c_7 => ?_)
                · skip
                  exact hret _ _ _ _ _ dX6_join_103 hP hS (⟨by rw [← hT, sJ_z h5 (fun z => by exfalso; omega)]; exact hMS, hMF⟩)
                · skip
                  refine lv_aload_n hxx hbb dX6_join_43 rfl (lv_at hl 0 rfl) ?_
                  refine lv_dup hxx hbb dX6_join_44 rfl ?_
                  refine zgX6_82 S hK hP 102 (by decide) zk_102 (v := nI (wT T1 + 1)) (hMS.2.1.2) dX6_join_45 ?_
                  refine lv_iconst (v := nI 2) hxx hbb dX6_join_48 (by decide) ?_
                  refine zsubN S (by omega) dX6_join_49 ?_
                  refine zpX6_82 S hK hP hS hB 102 (by decide) zk_102 dX6_join_50 (fun H locs hP hS => ?_)
                  refine lv_aload_n hxx hbb dX6_join_53 rfl (lv_at hl 0 rfl) ?_
                  refine zgX6_34 S hK hP 102 (by decide) zk_102 dX6_join_54 ?_
                  refine lv_aload_n hxx hbb dX6_join_57 rfl (lv_at hl 0 rfl) ?_
                  refine zgX6_82 S hK hP 102 (by decide) zk_102 (v := nI (wT T1 + 1 - 2)) (zU_eq) dX6_join_58 ?_
                  refine zaldN S hK hP 111 80 (by decide) zk_111 zl_111 (by omega) (v := nI (T1 6 (T1 0 1) - 1)) ((zU_np (by decide)).trans ((by rw [hw2]; exact hv2))) dX6_join_61 ?_
                  refine lv_istore_n (lv' := [(2, .int (nI (T1 6 (T1 0 1) - 1))), (0, .ref (A 102)), (1, .int (nI a9))]) hxx hbb dX6_join_62 rfl hl (by decide) rfl (fun ls hl => ?_)
                  refine lv_aload_n hxx hbb dX6_join_63 rfl (lv_at hl 1 rfl) ?_
                  refine zgX6_34 S hK hP 102 (by decide) zk_102 dX6_join_64 ?_
                  refine lv_aload_n hxx hbb dX6_join_67 rfl (lv_at hl 1 rfl) ?_
                  refine zgX6_82 S hK hP 102 (by decide) zk_102 (v := nI (wT T1 + 1 - 2)) (zU_eq) dX6_join_68 ?_
                  refine lv_iconst (v := nI 1) hxx hbb dX6_join_71 (by decide) ?_
                  refine zaddN S dX6_join_72 ?_
                  refine zaldN S hK hP 111 80 (by decide) zk_111 zl_111 (by omega) (v := nI (T1 4 (T1 0 1) - 1)) ((zU_np (by decide)).trans ((by rw [hw2, hw3]; exact hv3))) dX6_join_73 ?_
                  refine lv_istore_n (lv' := [(3, .int (nI (T1 4 (T1 0 1) - 1))), (2, .int (nI (T1 6 (T1 0 1) - 1))), (0, .ref (A 102)), (1, .int (nI a9))]) hxx hbb dX6_join_74 rfl hl (by decide) rfl (fun ls hl => ?_)
                  refine lv_aload_n hxx hbb dX6_join_75 rfl (lv_at hl 2 rfl) ?_
                  refine lv_dup hxx hbb dX6_join_76 rfl ?_
                  refine zgX6_85 S hK hP 102 (by decide) zk_102 (v := nI (qT T1)) ((zU_nj (by decide)).trans (hMS.2.1.1)) dX6_join_77 ?_
                  refine lv_iconst (v := nI 1) hxx hbb dX6_join_80 (by decide) ?_
                  refine zsubN S (by omega) dX6_join_81 ?_
                  refine zpX6_85 S hK hP hS hB 102 (by decide) zk_102 dX6_join_82 (fun H locs hP hS => ?_)
                  refine lv_aload_n hxx hbb dX6_join_85 rfl (lv_at hl 2 rfl) ?_
                  refine lv_aload_n hxx hbb dX6_join_86 rfl (lv_at hl 2 rfl) ?_
                  refine zgX6_31 S hK hP 102 (by decide) zk_102 dX6_join_87 ?_
                  refine lv_aload_n hxx hbb dX6_join_90 rfl (lv_at hl 2 rfl) ?_
                  refine zgX6_85 S hK hP 102 (by decide) zk_102 (v := nI (qT T1 - 1)) (zU_eq) dX6_join_91 ?_
                  refine zaldN S hK hP 110 80 (by decide) zk_110 zl_110 (by omega) (v := nI 2) ((zU_np (by decide)).trans ((zU_np (by decide)).trans (hv1))) dX6_join_94 ?_
                  refine lv_iload_n hxx hbb dX6_join_95 rfl (lv_at hl 1 rfl) ?_
                  refine lv_iload_n hxx hbb dX6_join_96 rfl (lv_at hl 0 rfl) ?_
                  refine ZV.callV S hK hP hS hB (kX6_make l G A (zU (zU Y1 102 12 (nI (wT T1 + 1 - 2))) 102 10 (nI (qT T1 - 1))) (T1 0 2) (wT T1 + 1 - 2) (nI 2) (nI (T1 6 (T1 0 1) - 1)) (nI (T1 4 (T1 0 1) - 1)) ((zU_nj (by decide)).trans ((zU_nj (by decide)).trans hMS.1.1)) (by omega) ((zU_nj (by decide)).trans zU_eq) (by omega)) zwX6_88 zdX6_make rfl ⟨Nat.le_trans (by decide) hfr, Nat.le_trans (by decide) hlo⟩ (by decide) (zcK6 zk_102) rfl rfl (Nat.le_of_ble_eq_true rfl) hl.1 dX6_join_97 ⟨Nat.zero_le _, Nat.zero_le _⟩ (fun Y_9 H locs hq_10 hP hS => ?_)
                  have hm := hq_10
                  rw [hw2] at hm
                  have hMS2 := hMS.jo h5 h6 rfl hm
                  have hdec : b1 (jO T1 5 (jO T1 0 1)) + b1 (jO T1 6 (jO T1 0 1)) < b1 (T1 5 (T1 0 1)) + b1 (T1 6 (T1 0 1)) := by rw [(jO_f T1).1, (jO_f T1).2.1, (jO_f T1).2.2.1]; have h9 := b1_p h6; have h8 : b1 0 = 0 := rfl; omega
                  have hMF2 := (((hMF.f (j := 12) (v := nI (wT T1 - 1)) (by omega)).f (j := 10) (v := nI (qT T1 - 1)) (by omega)).m hm)
                  refine lv_goto (tgt := 0) hxx hbb dX6_join_100 (by decide) ?_
                  exact ih_0 (jO T1) Y_9 hMS2 hMF2 ((sJ_O (by omega) h5).trans hT) (by rw [(jO_f T1).1]; exact hdT) (by omega) (by omega) _ _ _ hP hS (lv_sub hl [2, 3] rfl)
      · skip
        obtain ⟨hq1, hw1, hv1, hv2, hv3⟩ := hMS.tR h5
        have hw2 : wT T1 + 1 - 2 = wT T1 - 1 := by omega
        have hw3 : wT T1 - 1 + 1 = wT T1 := by omega
        refine lv_aload_n hxx hbb dX6_join_0 rfl (lv_at hl 0 rfl) ?_
        refine zgX6_85 S hK hP 102 (by decide) zk_102 (v := nI (qT T1)) (hMS.2.1.1) dX6_join_1 ?_
        refine zif_le (tgt := 103) S (by omega) dX6_join_4 (by decide) (fun c_11 => ?_) (fun c_11 => ?_)
        · skip
          exact hret _ _ _ _ _ dX6_join_103 hP hS (⟨by exfalso; omega, hMF⟩)
        · skip
          refine lv_aload_n hxx hbb dX6_join_7 rfl (lv_at hl 0 rfl) ?_
          refine zgX6_31 S hK hP 102 (by decide) zk_102 dX6_join_8 ?_
          refine lv_aload_n hxx hbb dX6_join_11 rfl (lv_at hl 0 rfl) ?_
          refine zgX6_85 S hK hP 102 (by decide) zk_102 (v := nI (qT T1)) (hMS.2.1.1) dX6_join_12 ?_
          refine lv_iconst (v := nI 1) hxx hbb dX6_join_15 (by decide) ?_
          refine zsubN S (by omega) dX6_join_16 ?_
          refine zaldN S hK hP 110 80 (by decide) zk_110 zl_110 (by omega) (v := nI 1) (hv1) dX6_join_17 ?_
          refine lv_bipush (v := nI 7) hxx hbb dX6_join_18 (by decide) ?_
          refine zcmp_eq (tgt := 103) S (by omega) (by omega) dX6_join_20 (by decide) (fun c_12 => ?_) (fun c_12 => ?_)
          · skip
            exact absurd c_12 (by decide)
          · skip
            refine lv_aload_n hxx hbb dX6_join_23 rfl (lv_at hl 0 rfl) ?_
            refine zgX6_31 S hK hP 102 (by decide) zk_102 dX6_join_24 ?_
            refine lv_aload_n hxx hbb dX6_join_27 rfl (lv_at hl 0 rfl) ?_
            refine zgX6_85 S hK hP 102 (by decide) zk_102 (v := nI (qT T1)) (hMS.2.1.1) dX6_join_28 ?_
            refine lv_iconst (v := nI 1) hxx hbb dX6_join_31 (by decide) ?_
            refine zsubN S (by omega) dX6_join_32 ?_
            refine zaldN S hK hP 110 80 (by decide) zk_110 zl_110 (by omega) (v := nI 1) (hv1) dX6_join_33 ?_
            refine lv_iconst (v := nI 1) hxx hbb dX6_join_34 (by decide) ?_
            refine zcmp_eq (tgt := 43) S (by omega) (by omega) dX6_join_35 (by decide) (fun c_13 => ?_) (fun c_13 => ?_)
            · skip
              refine lv_aload_n hxx hbb dX6_join_43 rfl (lv_at hl 0 rfl) ?_
              refine lv_dup hxx hbb dX6_join_44 rfl ?_
              refine zgX6_82 S hK hP 102 (by decide) zk_102 (v := nI (wT T1 + 1)) (hMS.2.1.2) dX6_join_45 ?_
              refine lv_iconst (v := nI 2) hxx hbb dX6_join_48 (by decide) ?_
              refine zsubN S (by omega) dX6_join_49 ?_
              refine zpX6_82 S hK hP hS hB 102 (by decide) zk_102 dX6_join_50 (fun H locs hP hS => ?_)
              refine lv_aload_n hxx hbb dX6_join_53 rfl (lv_at hl 0 rfl) ?_
              refine zgX6_34 S hK hP 102 (by decide) zk_102 dX6_join_54 ?_
              refine lv_aload_n hxx hbb dX6_join_57 rfl (lv_at hl 0 rfl) ?_
              refine zgX6_82 S hK hP 102 (by decide) zk_102 (v := nI (wT T1 + 1 - 2)) (zU_eq) dX6_join_58 ?_
              refine zaldN S hK hP 111 80 (by decide) zk_111 zl_111 (by omega) (v := nI (T1 5 (T1 0 1) - 1)) ((zU_np (by decide)).trans ((by rw [hw2]; exact hv2))) dX6_join_61 ?_
              refine lv_istore_n (lv' := [(2, .int (nI (T1 5 (T1 0 1) - 1))), (0, .ref (A 102)), (1, .int (nI a9))]) hxx hbb dX6_join_62 rfl hl (by decide) rfl (fun ls hl => ?_)
              refine lv_aload_n hxx hbb dX6_join_63 rfl (lv_at hl 1 rfl) ?_
              refine zgX6_34 S hK hP 102 (by decide) zk_102 dX6_join_64 ?_
              refine lv_aload_n hxx hbb dX6_join_67 rfl (lv_at hl 1 rfl) ?_
              refine zgX6_82 S hK hP 102 (by decide) zk_102 (v := nI (wT T1 + 1 - 2)) (zU_eq) dX6_join_68 ?_
              refine lv_iconst (v := nI 1) hxx hbb dX6_join_71 (by decide) ?_
              refine zaddN S dX6_join_72 ?_
              refine zaldN S hK hP 111 80 (by decide) zk_111 zl_111 (by omega) (v := nI (T1 4 (T1 0 1) - 1)) ((zU_np (by decide)).trans ((by rw [hw2, hw3]; exact hv3))) dX6_join_73 ?_
              refine lv_istore_n (lv' := [(3, .int (nI (T1 4 (T1 0 1) - 1))), (2, .int (nI (T1 5 (T1 0 1) - 1))), (0, .ref (A 102)), (1, .int (nI a9))]) hxx hbb dX6_join_74 rfl hl (by decide) rfl (fun ls hl => ?_)
              refine lv_aload_n hxx hbb dX6_join_75 rfl (lv_at hl 2 rfl) ?_
              refine lv_dup hxx hbb dX6_join_76 rfl ?_
              refine zgX6_85 S hK hP 102 (by decide) zk_102 (v := nI (qT T1)) ((zU_nj (by decide)).trans (hMS.2.1.1)) dX6_join_77 ?_
              refine lv_iconst (v := nI 1) hxx hbb dX6_join_80 (by decide) ?_
              refine zsubN S (by omega) dX6_join_81 ?_
              refine zpX6_85 S hK hP hS hB 102 (by decide) zk_102 dX6_join_82 (fun H locs hP hS => ?_)
              refine lv_aload_n hxx hbb dX6_join_85 rfl (lv_at hl 2 rfl) ?_
              refine lv_aload_n hxx hbb dX6_join_86 rfl (lv_at hl 2 rfl) ?_
              refine zgX6_31 S hK hP 102 (by decide) zk_102 dX6_join_87 ?_
              refine lv_aload_n hxx hbb dX6_join_90 rfl (lv_at hl 2 rfl) ?_
              refine zgX6_85 S hK hP 102 (by decide) zk_102 (v := nI (qT T1 - 1)) (zU_eq) dX6_join_91 ?_
              refine zaldN S hK hP 110 80 (by decide) zk_110 zl_110 (by omega) (v := nI 1) ((zU_np (by decide)).trans ((zU_np (by decide)).trans (hv1))) dX6_join_94 ?_
              refine lv_iload_n hxx hbb dX6_join_95 rfl (lv_at hl 1 rfl) ?_
              refine lv_iload_n hxx hbb dX6_join_96 rfl (lv_at hl 0 rfl) ?_
              refine ZV.callV S hK hP hS hB (kX6_make l G A (zU (zU Y1 102 12 (nI (wT T1 + 1 - 2))) 102 10 (nI (qT T1 - 1))) (T1 0 2) (wT T1 + 1 - 2) (nI 1) (nI (T1 5 (T1 0 1) - 1)) (nI (T1 4 (T1 0 1) - 1)) ((zU_nj (by decide)).trans ((zU_nj (by decide)).trans hMS.1.1)) (by omega) ((zU_nj (by decide)).trans zU_eq) (by omega)) zwX6_88 zdX6_make rfl ⟨Nat.le_trans (by decide) hfr, Nat.le_trans (by decide) hlo⟩ (by decide) (zcK6 zk_102) rfl rfl (Nat.le_of_ble_eq_true rfl) hl.1 dX6_join_97 ⟨Nat.zero_le _, Nat.zero_le _⟩ (fun Y_15 H locs hq_16 hP hS => ?_)
              have hm := hq_16
              rw [hw2] at hm
              have hMS2 := hMS.jr h5 rfl hm
              have hdec : b1 (jR T1 5 (jR T1 0 1)) + b1 (jR T1 6 (jR T1 0 1)) < b1 (T1 5 (T1 0 1)) + b1 (T1 6 (T1 0 1)) := by rw [(jR_f T1).1, (jR_f T1).2.1, (jR_f T1).2.2.1]; have h9 := b1_p h5; have h8 : b1 0 = 0 := rfl; omega
              have hMF2 := (((hMF.f (j := 12) (v := nI (wT T1 - 1)) (by omega)).f (j := 10) (v := nI (qT T1 - 1)) (by omega)).m hm)
              refine lv_goto (tgt := 0) hxx hbb dX6_join_100 (by decide) ?_
              exact ih_0 (jR T1) Y_15 hMS2 hMF2 (sJ_R.trans hT) (by rw [(jR_f T1).1]; exact hdT) (by omega) (by omega) _ _ _ hP hS (lv_sub hl [2, 3] rfl)
            · skip
              exact absurd c_13 (by decide)
  exact L_0 (_ + 1) T9 Y hMS MF.rf rfl hdT (by have := b1_le (T9 5 (T9 0 1)); have := b1_le (T9 6 (T9 0 1)); omega) (Nat.lt_succ_self _) _ _ _ hP hS (lv_sub hl [0, 1] rfl)
