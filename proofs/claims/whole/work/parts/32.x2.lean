def KP (Y Z : zY) : Prop := ∀ q, (q < 11 ∨ 15 < q) → Z q = Y q
/-- rows 12 .. 15 hold what rows 4 .. 7 held, before k -/
def CPk (Y Z : zY) (k : Nat) : Prop := ∀ n, n < k → Z 12 n = Y 4 n ∧ Z 13 n = Y 5 n ∧ Z 14 n = Y 6 n ∧ Z 15 n = Y 7 n
theorem CPk.pt {Y Z X : zY} {k : Nat} (h : CPk Y Z k) (p : PT Z X 11 k (Y 4 k) (Y 5 k) (Y 6 k) (Y 7 k)) (hk : k < 24) : CPk Y X (k + 1) := fun n hn => by
  by_cases e : n = k
  · subst e; exact p.2.2.1 hk
  · obtain ⟨g1, g2, g3, g4⟩ := p.2.2.2 n e
    obtain ⟨f1, f2, f3, f4⟩ := h n (by omega)
    exact ⟨g1.trans f1, g2.trans f2, g3.trans f3, g4.trans f4⟩
theorem KP.pt {Y Z X : zY} {k : Nat} {a b c v : Int32} (h : KP Y Z) (p : PT Z X 11 k a b c v) : KP Y X := fun q hq => (p.2.1 q (by omega) (by omega) (by omega) (by omega) (by omega)).trans (h q hq)
theorem CPk.xp {Y Z : zY} {nn : Nat} {kd lf rt : Nat → Nat} (h : CPk Y Z nn) (h0 : XP Y 3 nn kd lf rt) (h4 : Z 11 4 = nI nn) : XP Z 11 nn kd lf rt := ⟨h4, fun n hn => by
  obtain ⟨f1, f2, f3, f4⟩ := h n hn
  obtain ⟨g1, g2, g3, g4⟩ := h0.2 n hn
  exact ⟨f1.trans g1, f2.trans g2, f3.trans g3, f4.trans g4⟩⟩
set_option maxHeartbeats 4000000 in
set_option maxRecDepth 100000 in
theorem kX4_put (l : Launch) (G : zG) (A : Nat → Nat) (Y : zY) (po n : Nat) (x1 x2 x3 x4 : Int32) (hpo : zPP po) (h4 : Y po 4 = nI n) (hn : n < 2 ^ 30) : ZI l yX4_put cX4_put 6 (.int) 0 0 G A Y [.ref (A po), .int x1, .int x2, .int x3, .int x4] (fun r Y' => r = nI n ∧ PT Y Y' po n x1 x2 x3 x4) := by
  refine ZI.enter (by decide) (Nat.le_of_ble_eq_true rfl) ?_
  intro p e s m args below meth c R Q hxx hbb S hK hfr hlo hret H ls hP hS hl
  have hB : ∀ q, zAd A q → zAd A q := fun _ h => h
  have hl : lv_has ls 6 [(0, .ref (A po)), (1, .int x1), (2, .int x2), (3, .int x3), (4, .int x4)] := hl
  have S : CallFix p m c cX4_put 6 s args wsL_law RX4 := S
  obtain ⟨hp4, hz, ⟨hk1, hk2, hk3, hk4⟩, ⟨hl1, hl2, hl3, hl4⟩⟩ := hpo
  refine lv_aload_n hxx hbb dX4_put_0 rfl (lv_at hl 0 rfl) ?_
  refine zgX4_24 S hK hP po (by omega) hz (v := nI n) (h4) dX4_put_1 ?_
  refine lv_istore (lv' := [(5, .int (nI n)), (0, .ref (A po)), (1, .int x1), (2, .int x2), (3, .int x3), (4, .int x4)]) hxx hbb dX4_put_4 hl (by decide) rfl (fun ls hl => ?_)
  refine lv_iload hxx hbb dX4_put_6 (lv_at hl 0 rfl) ?_
  refine lv_bipush (v := nI 24) hxx hbb dX4_put_8 (by decide) ?_
  refine zcmp_ge (tgt := 46) S (by omega) (by omega) dX4_put_10 (by decide) (fun c_1 => ?_) (fun c_1 => ?_)
  · skip
    refine lv_aload_n hxx hbb dX4_put_46 rfl (lv_at hl 1 rfl) ?_
    refine lv_dup hxx hbb dX4_put_47 rfl ?_
    refine zgX4_24 S hK hP po (by omega) hz (v := nI n) (h4) dX4_put_48 ?_
    refine lv_iconst (v := nI 1) hxx hbb dX4_put_51 (by decide) ?_
    refine zaddN S dX4_put_52 ?_
    refine zpX4_24 S hK hP hS hB po (by omega) hz dX4_put_53 (fun H locs hP hS => ?_)
    refine lv_iload hxx hbb dX4_put_56 (lv_at hl 0 rfl) ?_
    exact hret _ _ _ _ _ _ dX4_put_58 (rfl) hP hS (⟨rfl, PT.out (by omega)⟩)
  · skip
    refine lv_aload_n hxx hbb dX4_put_13 rfl (lv_at hl 1 rfl) ?_
    refine zgX4_9 S hK hP po (by omega) hz dX4_put_14 ?_
    refine lv_iload hxx hbb dX4_put_17 (lv_at hl 0 rfl) ?_
    refine lv_iload_n hxx hbb dX4_put_19 rfl (lv_at hl 2 rfl) ?_
    refine zastN S hK hP hS hB (po + 1) 24 (by omega) hk1 hl1 (by omega) dX4_put_20 (fun H locs hP hS => ?_)
    refine lv_aload_n hxx hbb dX4_put_21 rfl (lv_at hl 1 rfl) ?_
    refine zgX4_15 S hK hP po (by omega) hz dX4_put_22 ?_
    refine lv_iload hxx hbb dX4_put_25 (lv_at hl 0 rfl) ?_
    refine lv_iload_n hxx hbb dX4_put_27 rfl (lv_at hl 3 rfl) ?_
    refine zastN S hK hP hS hB (po + 2) 24 (by omega) hk2 hl2 (by omega) dX4_put_28 (fun H locs hP hS => ?_)
    refine lv_aload_n hxx hbb dX4_put_29 rfl (lv_at hl 1 rfl) ?_
    refine zgX4_18 S hK hP po (by omega) hz dX4_put_30 ?_
    refine lv_iload hxx hbb dX4_put_33 (lv_at hl 0 rfl) ?_
    refine lv_iload_n hxx hbb dX4_put_35 rfl (lv_at hl 4 rfl) ?_
    refine zastN S hK hP hS hB (po + 3) 24 (by omega) hk3 hl3 (by omega) dX4_put_36 (fun H locs hP hS => ?_)
    refine lv_aload_n hxx hbb dX4_put_37 rfl (lv_at hl 1 rfl) ?_
    refine zgX4_21 S hK hP po (by omega) hz dX4_put_38 ?_
    refine lv_iload hxx hbb dX4_put_41 (lv_at hl 0 rfl) ?_
    refine lv_iload hxx hbb dX4_put_43 (lv_at hl 5 rfl) ?_
    refine zastN S hK hP hS hB (po + 4) 24 (by omega) hk4 hl4 (by omega) dX4_put_45 (fun H locs hP hS => ?_)
    refine lv_aload_n hxx hbb dX4_put_46 rfl (lv_at hl 1 rfl) ?_
    refine lv_dup hxx hbb dX4_put_47 rfl ?_
    refine zgX4_24 S hK hP po (by omega) hz (v := nI n) ((zU_np (by omega)).trans ((zU_np (by omega)).trans ((zU_np (by omega)).trans ((zU_np (by omega)).trans (h4))))) dX4_put_48 ?_
    refine lv_iconst (v := nI 1) hxx hbb dX4_put_51 (by decide) ?_
    refine zaddN S dX4_put_52 ?_
    refine zpX4_24 S hK hP hS hB po (by omega) hz dX4_put_53 (fun H locs hP hS => ?_)
    refine lv_iload hxx hbb dX4_put_56 (lv_at hl 0 rfl) ?_
    exact hret _ _ _ _ _ _ dX4_put_58 (rfl) hP hS (⟨rfl, PT.in⟩)

set_option maxHeartbeats 4000000 in
set_option maxRecDepth 100000 in
theorem kX4_changeValue (l : Launch) (G : zG) (A : Nat → Nat) (Y : zY) (po n : Nat) (x : Int32) (hpo : zPP po) (hn : n < 2 ^ 30) : ZV l yX4_changeValue cX4_changeValue 3 0 0 G A Y [.ref (A po), .int (nI n), .int x] (fun Y' => (n < 24 ∧ Y' = zU Y (po + 4) n x) ∨ (24 ≤ n ∧ Y' = Y)) := by
  refine ZV.enter (by decide) (Nat.le_of_ble_eq_true rfl) ?_
  intro p e s m args below meth c R Q hxx hbb S hK hfr hlo hret H ls hP hS hl
  have hB : ∀ q, zAd A q → zAd A q := fun _ h => h
  have hl : lv_has ls 3 [(0, .ref (A po)), (1, .int (nI n)), (2, .int x)] := hl
  have S : CallFix p m c cX4_changeValue 3 s args wsL_law RX4 := S
  obtain ⟨hp4, hz, ⟨hk1, hk2, hk3, hk4⟩, ⟨hl1, hl2, hl3, hl4⟩⟩ := hpo
  refine lv_iload_n hxx hbb dX4_changeValue_0 rfl (lv_at hl 1 rfl) ?_
  refine zif_lt S (by omega) dX4_changeValue_1 ⟨17, by decide⟩ ?_
  refine lv_iload_n hxx hbb dX4_changeValue_4 rfl (lv_at hl 1 rfl) ?_
  refine lv_bipush (v := nI 24) hxx hbb dX4_changeValue_5 (by decide) ?_
  refine zcmp_ge (tgt := 17) S (by omega) (by omega) dX4_changeValue_7 (by decide) (fun c_2 => ?_) (fun c_2 => ?_)
  · skip
    exact hret _ _ _ _ _ dX4_changeValue_17 hP hS (Or.inr ⟨by omega, rfl⟩)
  · skip
    refine lv_aload_n hxx hbb dX4_changeValue_10 rfl (lv_at hl 0 rfl) ?_
    refine zgX4_21 S hK hP po (by omega) hz dX4_changeValue_11 ?_
    refine lv_iload_n hxx hbb dX4_changeValue_14 rfl (lv_at hl 1 rfl) ?_
    refine lv_iload_n hxx hbb dX4_changeValue_15 rfl (lv_at hl 2 rfl) ?_
    refine zastN S hK hP hS hB (po + 4) 24 (by omega) hk4 hl4 (by omega) dX4_changeValue_16 (fun H locs hP hS => ?_)
    exact hret _ _ _ _ _ dX4_changeValue_17 hP hS (Or.inl ⟨by omega, rfl⟩)

set_option maxHeartbeats 4000000 in
set_option maxRecDepth 100000 in
theorem kX4_clear (l : Launch) (G : zG) (A : Nat → Nat) (Y : zY) (po : Nat) (hpo : zPP po) : ZV l yX4_clear cX4_clear 1 0 0 G A Y [.ref (A po)] (fun Y' => Y' = zU Y po 4 (nI 0)) := by
  refine ZV.enter (by decide) (Nat.le_of_ble_eq_true rfl) ?_
  intro p e s m args below meth c R Q hxx hbb S hK hfr hlo hret H ls hP hS hl
  have hB : ∀ q, zAd A q → zAd A q := fun _ h => h
  have hl : lv_has ls 1 [(0, .ref (A po))] := hl
  have S : CallFix p m c cX4_clear 1 s args wsL_law RX4 := S
  obtain ⟨hp4, hz, ⟨hk1, hk2, hk3, hk4⟩, ⟨hl1, hl2, hl3, hl4⟩⟩ := hpo
  refine lv_aload_n hxx hbb dX4_clear_0 rfl (lv_at hl 0 rfl) ?_
  refine lv_iconst (v := nI 0) hxx hbb dX4_clear_1 (by decide) ?_
  refine zpX4_24 S hK hP hS hB po (by omega) hz dX4_clear_2 (fun H locs hP hS => ?_)
  exact hret _ _ _ _ _ dX4_clear_5 hP hS (rfl)

set_option maxHeartbeats 4000000 in
set_option maxRecDepth 100000 in
theorem kX4_copyFrom (l : Launch) (G : zG) (A : Nat → Nat) (Y : zY) (nn : Nat) (kd lf rt : Nat → Nat) (hnn : nn ≤ 24) (hXP : XP Y 3 nn kd lf rt) : ZV l yX4_copyFrom cX4_copyFrom 4 1 25 G A Y [.ref (A 11), .ref (A 3)] (fun Y' => XP Y' 11 nn kd lf rt ∧ KP Y Y') := by
  refine ZV.enter (by decide) (Nat.le_of_ble_eq_true rfl) ?_
  intro p e s m args below meth c R Q hxx hbb S hK hfr hlo hret H ls hP hS hl
  have hB : ∀ q, zAd A q → zAd A q := fun _ h => h
  have hl : lv_has ls 4 [(0, .ref (A 11)), (1, .ref (A 3))] := hl
  have S : CallFix p m c cX4_copyFrom 4 s args wsL_law RX4 := S
  refine lv_aload_n hxx hbb dX4_copyFrom_0 rfl (lv_at hl 0 rfl) ?_
  refine ZV.callV S hK hP hS hB (kX4_clear l G A Y 11 zPP_11) zwX4_28 zdX4_clear rfl ⟨Nat.le_trans (by decide) hfr, Nat.le_trans (by decide) hlo⟩ (by decide) (zcK2 zk_11) rfl rfl (Nat.le_of_ble_eq_true rfl) hl.1 dX4_copyFrom_1 ⟨Nat.zero_le _, Nat.zero_le _⟩ (fun Y_2 H locs hq_3 hP hS => ?_)
  rw [hq_3] at hP
  refine lv_aload_n hxx hbb dX4_copyFrom_4 rfl (lv_at hl 1 rfl) ?_
  refine zgX4_24 S hK hP 3 (by decide) zk_3 (v := nI nn) ((zU_np (by decide)).trans (hXP.1)) dX4_copyFrom_5 ?_
  refine lv_bipush (v := nI 24) hxx hbb dX4_copyFrom_8 (by decide) ?_
  refine zminN S hl.1 zwX4_31 (Nat.le_trans (by decide) hfr) (Nat.le_trans (by decide) hlo) (by omega) (by omega) (Nat.le_of_ble_eq_true rfl) dX4_copyFrom_10 ?_
  refine lv_istore_n (lv' := [(2, .int (nI (min nn 24))), (0, .ref (A 11)), (1, .ref (A 3))]) hxx hbb dX4_copyFrom_13 rfl hl (by decide) rfl (fun ls hl => ?_)
  refine lv_iconst (v := nI 0) hxx hbb dX4_copyFrom_14 (by decide) ?_
  refine lv_istore_n (lv' := [(3, .int (nI 0)), (2, .int (nI (min nn 24))), (0, .ref (A 11)), (1, .ref (A 3))]) hxx hbb dX4_copyFrom_15 rfl hl (by decide) rfl (fun ls hl => ?_)
  have L_16 : ∀ (N_16 : Nat) (k : Nat) (Y1 : zY) (hk : k ≤ nn) (hKP : KP Y Y1) (hc1 : Y1 11 4 = nI k) (hCP : CPk Y Y1 k), nn - k < N_16 → ∀ (H : Heap) (locs : List Loc) (ls : Array Slot), va_P G.1 vwCl (zW G A Y1) H → va_S (zAd A) s.heap H locs → lv_has ls 4 [(0, .ref (A 11)), (1, .ref (A 3)), (2, .int (nI (min nn 24))), (3, .int (nI k))] → W p l e R s m args below meth c H locs 0 0 Q (F0 m 16 ls []) := by
    intro N_16
    induction N_16 with
    | zero => intro k Y1 hk hKP hc1 hCP hm; exact absurd hm (Nat.not_lt_zero _)
    | succ N_16 ih_16 =>
      intro k Y1 hk hKP hc1 hCP hm_16 H locs ls hP hS hl
      refine lv_iload_n hxx hbb dX4_copyFrom_16 rfl (lv_at hl 3 rfl) ?_
      refine lv_iload_n hxx hbb dX4_copyFrom_17 rfl (lv_at hl 2 rfl) ?_
      refine zcmp_ge (tgt := 56) S (by omega) (by omega) dX4_copyFrom_18 (by decide) (fun c_4 => ?_) (fun c_4 => ?_)
      · skip
        exact hret _ _ _ _ _ dX4_copyFrom_56 hP hS (⟨(by have e9 : k = nn := (by omega); rw [e9] at hCP hc1; exact hCP.xp hXP hc1), hKP⟩)
      · skip
        refine lv_aload_n hxx hbb dX4_copyFrom_21 rfl (lv_at hl 0 rfl) ?_
        refine lv_aload_n hxx hbb dX4_copyFrom_22 rfl (lv_at hl 1 rfl) ?_
        refine zgX4_9 S hK hP 3 (by decide) zk_3 dX4_copyFrom_23 ?_
        refine lv_iload_n hxx hbb dX4_copyFrom_26 rfl (lv_at hl 3 rfl) ?_
        refine zaldN S hK hP 4 24 (by decide) zk_4 zl_4 (by omega) (v := Y 4 k) (congrFun (hKP 4 (by omega)) _) dX4_copyFrom_27 ?_
        refine lv_aload_n hxx hbb dX4_copyFrom_28 rfl (lv_at hl 1 rfl) ?_
        refine zgX4_15 S hK hP 3 (by decide) zk_3 dX4_copyFrom_29 ?_
        refine lv_iload_n hxx hbb dX4_copyFrom_32 rfl (lv_at hl 3 rfl) ?_
        refine zaldN S hK hP 5 24 (by decide) zk_5 zl_5 (by omega) (v := Y 5 k) (congrFun (hKP 5 (by omega)) _) dX4_copyFrom_33 ?_
        refine lv_aload_n hxx hbb dX4_copyFrom_34 rfl (lv_at hl 1 rfl) ?_
        refine zgX4_18 S hK hP 3 (by decide) zk_3 dX4_copyFrom_35 ?_
        refine lv_iload_n hxx hbb dX4_copyFrom_38 rfl (lv_at hl 3 rfl) ?_
        refine zaldN S hK hP 6 24 (by decide) zk_6 zl_6 (by omega) (v := Y 6 k) (congrFun (hKP 6 (by omega)) _) dX4_copyFrom_39 ?_
        refine lv_aload_n hxx hbb dX4_copyFrom_40 rfl (lv_at hl 1 rfl) ?_
        refine zgX4_21 S hK hP 3 (by decide) zk_3 dX4_copyFrom_41 ?_
        refine lv_iload_n hxx hbb dX4_copyFrom_44 rfl (lv_at hl 3 rfl) ?_
        refine zaldN S hK hP 7 24 (by decide) zk_7 zl_7 (by omega) (v := Y 7 k) (congrFun (hKP 7 (by omega)) _) dX4_copyFrom_45 ?_
        refine ZI.callV S hK hP hS hB (kX4_put l G A Y1 11 k (Y 4 k) (Y 5 k) (Y 6 k) (Y 7 k) zPP_11 hc1 (by omega)) zwX4_37 zdX4_put rfl ⟨Nat.le_trans (by decide) hfr, Nat.le_trans (by decide) hlo⟩ (by decide) (zcK2 zk_11) rfl rfl (Nat.le_of_ble_eq_true rfl) hl.1 dX4_copyFrom_46 ⟨Nat.zero_le _, Nat.zero_le _⟩ (fun r_5 Y_6 H locs hq_7 hP hS => ?_)
        obtain ⟨hr9, hPT⟩ := hq_7
        refine lv_pop hxx hbb dX4_copyFrom_49 rfl ?_
        refine lv_iinc (v := nI (k + 1)) (lv' := [(3, .int (nI (k + 1))), (0, .ref (A 11)), (1, .ref (A 3)), (2, .int (nI (min nn 24)))]) hxx hbb dX4_copyFrom_50 hl (k := 3) rfl (zinc1 _) (by decide) rfl (fun ls hl => ?_)
        refine lv_goto (tgt := 16) hxx hbb dX4_copyFrom_53 (by decide) ?_
        exact ih_16 (k + 1) Y_6 (by omega) (hKP.pt hPT) hPT.1 (hCP.pt hPT (by omega)) (by omega) _ _ _ hP hS (lv_sub hl [1, 2, 3, 0] rfl)
  exact L_16 (_ + 1) 0 (zU Y 11 4 (nI 0)) (by omega) (fun q hq => zU_row (by omega)) zU_eq (fun n hn => absurd hn (by omega)) (Nat.lt_succ_self _) _ _ _ hP hS (lv_sub hl [2, 3, 1, 0] rfl)

set_option maxHeartbeats 4000000 in
set_option maxRecDepth 100000 in
theorem kX2_bitOf (l : Launch) (G : zG) (A : Nat → Nat) (Y : zY) (k : Nat) (hk : 97 ≤ k ∧ k ≤ 122) : ZI l yX2_bitOf cX2_bitOf 1 (.int) 0 0 G A Y [.int (nI k)] (fun r Y' => r = nI (2 ^ (k - 97)) ∧ Y' = Y) := by
  refine ZI.enter (by decide) (Nat.le_of_ble_eq_true rfl) ?_
  intro p e s m args below meth c R Q hxx hbb S hK hfr hlo hret H ls hP hS hl
  have hB : ∀ q, zAd A q → zAd A q := fun _ h => h
  have hl : lv_has ls 1 [(0, .int (nI k))] := hl
  have S : CallFix p m c cX2_bitOf 1 s args wsL_law RX2 := S
  refine lv_iconst (v := nI 1) hxx hbb dX2_bitOf_0 (by decide) ?_
  refine lv_iload_n hxx hbb dX2_bitOf_1 rfl (lv_at hl 0 rfl) ?_
  refine lv_bipush (v := nI 97) hxx hbb dX2_bitOf_2 (by decide) ?_
  refine zsubN S (by omega) dX2_bitOf_4 ?_
  refine lv_ishl hxx hbb dX2_bitOf_5 ?_
  rw [zshl (by omega)]
  exact hret _ _ _ _ _ _ dX2_bitOf_6 (rfl) hP hS (⟨rfl, rfl⟩)

set_option maxHeartbeats 4000000 in
set_option maxRecDepth 100000 in
theorem kX2_beginBracket (l : Launch) (G : zG) (A : Nat → Nat) (Y : zY) (T9 : nY) (nb : Nat) (hR : RD Y T9) (hBd : RB nb T9) (hnb : nb ≤ 190) : ZV l yX2_beginBracket cX2_beginBracket 1 0 0 G A Y [.ref (A 2)] (fun Y' => RD Y' (sBeg T9) ∧ KR Y Y') := by
  refine ZV.enter (by decide) (Nat.le_of_ble_eq_true rfl) ?_
  intro p e s m args below meth c R Q hxx hbb S hK hfr hlo hret H ls hP hS hl
  have hB : ∀ q, zAd A q → zAd A q := fun _ h => h
  have hl : lv_has ls 1 [(0, .ref (A 2))] := hl
  have S : CallFix p m c cX2_beginBracket 1 s args wsL_law RX2 := S
  have hd6 := hBd.1
  have hcn := hBd.2.1
  have hsl := hBd.2.2.1
  have hbe := hBd.2.2.2.2.2 (T9 0 1)
  refine lv_aload_n hxx hbb dX2_beginBracket_0 rfl (lv_at hl 0 rfl) ?_
  refine zgX2_25 S hK hP 2 (by decide) zk_2 dX2_beginBracket_1 ?_
  refine lv_aload_n hxx hbb dX2_beginBracket_4 rfl (lv_at hl 0 rfl) ?_
  refine zgX2_22 S hK hP 2 (by decide) zk_2 (v := nI (T9 0 1)) (hR.1.2.1) dX2_beginBracket_5 ?_
  refine lv_iconst (v := (-1)) hxx hbb dX2_beginBracket_8 (by decide) ?_
  refine zastN S hK hP hS hB 8 7 (by decide) zk_8 zl_8 (by omega) dX2_beginBracket_9 (fun H locs hP hS => ?_)
  refine lv_aload_n hxx hbb dX2_beginBracket_10 rfl (lv_at hl 0 rfl) ?_
  refine zgX2_29 S hK hP 2 (by decide) zk_2 dX2_beginBracket_11 ?_
  refine lv_aload_n hxx hbb dX2_beginBracket_14 rfl (lv_at hl 0 rfl) ?_
  refine zgX2_22 S hK hP 2 (by decide) zk_2 (v := nI (T9 0 1)) ((zU_np (by decide)).trans (hR.1.2.1)) dX2_beginBracket_15 ?_
  refine lv_iconst (v := (-1)) hxx hbb dX2_beginBracket_18 (by decide) ?_
  refine zastN S hK hP hS hB 9 7 (by decide) zk_9 zl_9 (by omega) dX2_beginBracket_19 (fun H locs hP hS => ?_)
  refine lv_aload_n hxx hbb dX2_beginBracket_20 rfl (lv_at hl 0 rfl) ?_
  refine zgX2_32 S hK hP 2 (by decide) zk_2 dX2_beginBracket_21 ?_
  refine lv_aload_n hxx hbb dX2_beginBracket_24 rfl (lv_at hl 0 rfl) ?_
  refine zgX2_22 S hK hP 2 (by decide) zk_2 (v := nI (T9 0 1)) ((zU_np (by decide)).trans ((zU_np (by decide)).trans (hR.1.2.1))) dX2_beginBracket_25 ?_
  refine lv_iconst (v := (-1)) hxx hbb dX2_beginBracket_28 (by decide) ?_
  refine zastN S hK hP hS hB 10 7 (by decide) zk_10 zl_10 (by omega) dX2_beginBracket_29 (fun H locs hP hS => ?_)
  refine lv_aload_n hxx hbb dX2_beginBracket_30 rfl (lv_at hl 0 rfl) ?_
  refine lv_iconst (v := nI 0) hxx hbb dX2_beginBracket_31 (by decide) ?_
  refine zpX2_18 S hK hP hS hB 2 (by decide) zk_2 dX2_beginBracket_32 (fun H locs hP hS => ?_)
  exact hret _ _ _ _ _ dX2_beginBracket_35 hP hS (⟨(((hR.it oI_0.symm).ro oI_0.symm).ch oI_0.symm).st rfl, (((KR.rf.u (by omega)).u (by omega)).u (by omega)).u (by omega)⟩)

set_option maxHeartbeats 4000000 in
set_option maxRecDepth 100000 in
theorem kX2_endAtom (l : Launch) (G : zG) (A : Nat → Nat) (Y : zY) (v9 : Nat) (T9 : nY) (nb : Nat) (hR : RD Y T9) (hBd : RB nb T9) (hnb : nb ≤ 190) : ZV l yX2_endAtom cX2_endAtom 2 1 25 G A Y [.ref (A 2), .int (nI v9)] (fun Y' => RD Y' (sAtom T9 v9) ∧ KR Y Y') := by
  refine ZV.enter (by decide) (Nat.le_of_ble_eq_true rfl) ?_
  intro p e s m args below meth c R Q hxx hbb S hK hfr hlo hret H ls hP hS hl
  have hB : ∀ q, zAd A q → zAd A q := fun _ h => h
  have hl : lv_has ls 2 [(0, .ref (A 2)), (1, .int (nI v9))] := hl
  have S : CallFix p m c cX2_endAtom 2 s args wsL_law RX2 := S
  have hd6 := hBd.1
  have hcn := hBd.2.1
  have hsl := hBd.2.2.1
  have hbe := hBd.2.2.2.2.2 (T9 0 1)
  refine lv_aload_n hxx hbb dX2_endAtom_0 rfl (lv_at hl 0 rfl) ?_
  refine zgX2_25 S hK hP 2 (by decide) zk_2 dX2_endAtom_1 ?_
  refine lv_aload_n hxx hbb dX2_endAtom_4 rfl (lv_at hl 0 rfl) ?_
  refine zgX2_22 S hK hP 2 (by decide) zk_2 (v := nI (T9 0 1)) (hR.1.2.1) dX2_endAtom_5 ?_
  refine lv_aload_n hxx hbb dX2_endAtom_8 rfl (lv_at hl 0 rfl) ?_
  refine zgX2_12 S hK hP 2 (by decide) zk_2 dX2_endAtom_9 ?_
  refine lv_iconst (v := nI 0) hxx hbb dX2_endAtom_12 (by decide) ?_
  refine lv_iconst (v := (-1)) hxx hbb dX2_endAtom_13 (by decide) ?_
  refine lv_iconst (v := (-1)) hxx hbb dX2_endAtom_14 (by decide) ?_
  refine lv_iload_n hxx hbb dX2_endAtom_15 rfl (lv_at hl 1 rfl) ?_
  refine ZI.callVN S hK hP hS hB (kX4_put l G A Y 3 (T9 0 2) (nI 0) (-1) (-1) (nI v9) zPP_3 hR.2.2.1 (by omega)) (znX2_114) zwX2_114 zdX4_put rfl ⟨Nat.le_trans (by decide) hfr, Nat.le_trans (by decide) hlo⟩ (by decide) (zcK2 zk_3) rfl rfl (Nat.le_of_ble_eq_true rfl) hl.1 dX2_endAtom_16 ⟨Nat.zero_le _, Nat.zero_le _⟩ (fun r_1 Y_2 H locs hq_3 hP hS => ?_)
  obtain ⟨hr9, hPT⟩ := hq_3
  subst hr9
  have hR1 := hR.put (k := 0) (l := v9) (r := 0) hPT rfl rfl rfl rfl
  have hKr : KR Y Y_2 := KR.rf.pt hPT
  refine zastN S hK hP hS hB 8 7 (by decide) zk_8 zl_8 (by omega) dX2_endAtom_19 (fun H locs hP hS => ?_)
  refine lv_aload_n hxx hbb dX2_endAtom_20 rfl (lv_at hl 0 rfl) ?_
  refine lv_iconst (v := nI 1) hxx hbb dX2_endAtom_21 (by decide) ?_
  refine zpX2_18 S hK hP hS hB 2 (by decide) zk_2 dX2_endAtom_22 (fun H locs hP hS => ?_)
  exact hret _ _ _ _ _ dX2_endAtom_25 hP hS (⟨(hR1.it (oI_s _).symm).st rfl, (hKr.u (by omega)).u (by omega)⟩)

set_option maxHeartbeats 4000000 in
set_option maxRecDepth 100000 in
theorem kX2_endSuffix (l : Launch) (G : zG) (A : Nat → Nat) (Y : zY) (kk v9 : Nat) (T9 : nY) (nb : Nat) (hR : RD Y T9) (hBd : RB nb T9) (hnb : nb ≤ 190) (hlv : 1 ≤ T9 4 (T9 0 1)) (hkk : 3 ≤ kk ∧ kk ≤ 6) (hv9 : kk ≠ 6 → v9 = 0) : ZV l yX2_endSuffix cX2_endSuffix 3 1 25 G A Y [.ref (A 2), .int (nI (km kk)), .int (nI v9)] (fun Y' => RD Y' (sSuf T9 kk v9) ∧ KR Y Y') := by
  refine ZV.enter (by decide) (Nat.le_of_ble_eq_true rfl) ?_
  intro p e s m args below meth c R Q hxx hbb S hK hfr hlo hret H ls hP hS hl
  have hB : ∀ q, zAd A q → zAd A q := fun _ h => h
  have hl : lv_has ls 3 [(0, .ref (A 2)), (1, .int (nI (km kk))), (2, .int (nI v9))] := hl
  have S : CallFix p m c cX2_endSuffix 3 s args wsL_law RX2 := S
  have hd6 := hBd.1
  have hcn := hBd.2.1
  have hsl := hBd.2.2.1
  have hbe := hBd.2.2.2.2.2 (T9 0 1)
  refine lv_aload_n hxx hbb dX2_endSuffix_0 rfl (lv_at hl 0 rfl) ?_
  refine zgX2_25 S hK hP 2 (by decide) zk_2 dX2_endSuffix_1 ?_
  refine lv_aload_n hxx hbb dX2_endSuffix_4 rfl (lv_at hl 0 rfl) ?_
  refine zgX2_22 S hK hP 2 (by decide) zk_2 (v := nI (T9 0 1)) (hR.1.2.1) dX2_endSuffix_5 ?_
  refine lv_aload_n hxx hbb dX2_endSuffix_8 rfl (lv_at hl 0 rfl) ?_
  refine zgX2_12 S hK hP 2 (by decide) zk_2 dX2_endSuffix_9 ?_
  refine lv_iload_n hxx hbb dX2_endSuffix_12 rfl (lv_at hl 1 rfl) ?_
  refine lv_aload_n hxx hbb dX2_endSuffix_13 rfl (lv_at hl 0 rfl) ?_
  refine zgX2_25 S hK hP 2 (by decide) zk_2 dX2_endSuffix_14 ?_
  refine lv_aload_n hxx hbb dX2_endSuffix_17 rfl (lv_at hl 0 rfl) ?_
  refine zgX2_22 S hK hP 2 (by decide) zk_2 (v := nI (T9 0 1)) (hR.1.2.1) dX2_endSuffix_18 ?_
  refine zaldN S hK hP 8 7 (by decide) zk_8 zl_8 (by omega) (v := nI (T9 4 (T9 0 1) - 1)) ((hR.2.1 (T9 0 1) hd6).1.trans (oI_pos (by omega))) dX2_endSuffix_21 ?_
  refine lv_iconst (v := (-1)) hxx hbb dX2_endSuffix_22 (by decide) ?_
  refine lv_iload_n hxx hbb dX2_endSuffix_23 rfl (lv_at hl 2 rfl) ?_
  refine ZI.callVN S hK hP hS hB (kX4_put l G A Y 3 (T9 0 2) (nI (km kk)) (nI (T9 4 (T9 0 1) - 1)) (-1) (nI v9) zPP_3 hR.2.2.1 (by omega)) (znX2_114) zwX2_114 zdX4_put rfl ⟨Nat.le_trans (by decide) hfr, Nat.le_trans (by decide) hlo⟩ (by decide) (zcK2 zk_3) rfl rfl (Nat.le_of_ble_eq_true rfl) hl.1 dX2_endSuffix_24 ⟨Nat.zero_le _, Nat.zero_le _⟩ (fun r_1 Y_2 H locs hq_3 hP hS => ?_)
  obtain ⟨hr9, hPT⟩ := hq_3
  subst hr9
  have hR1 := hR.put (k := kk) (l := (T9 4 (T9 0 1) - 1)) (r := v9) hPT rfl (by rw [if_neg (by omega)]) (by rw [if_neg (by omega)]) (by rw [if_neg (by omega)]; exact (Decidable.em (kk = 6)).elim (fun h6 => by rw [if_pos h6]) (fun h6 => by rw [if_neg h6, hv9 h6]))
  have hKr : KR Y Y_2 := KR.rf.pt hPT
  refine zastN S hK hP hS hB 8 7 (by decide) zk_8 zl_8 (by omega) dX2_endSuffix_27 (fun H locs hP hS => ?_)
  refine lv_aload_n hxx hbb dX2_endSuffix_28 rfl (lv_at hl 0 rfl) ?_
  refine lv_iconst (v := nI 1) hxx hbb dX2_endSuffix_29 (by decide) ?_
  refine zpX2_18 S hK hP hS hB 2 (by decide) zk_2 dX2_endSuffix_30 (fun H locs hP hS => ?_)
  exact hret _ _ _ _ _ dX2_endSuffix_33 hP hS (⟨(hR1.it (oI_s _).symm).st rfl, (hKr.u (by omega)).u (by omega)⟩)

set_option maxHeartbeats 4000000 in
set_option maxRecDepth 100000 in
theorem kX2_endItem (l : Launch) (G : zG) (A : Nat → Nat) (Y : zY) (T9 : nY) (nb : Nat) (hR : RD Y T9) (hBd : RB nb T9) (hnb : nb ≤ 190) (hlv : 1 ≤ T9 4 (T9 0 1)) : ZV l yX2_endItem cX2_endItem 3 1 25 G A Y [.ref (A 2)] (fun Y' => RD Y' (sItem T9) ∧ KR Y Y') := by
  refine ZV.enter (by decide) (Nat.le_of_ble_eq_true rfl) ?_
  intro p e s m args below meth c R Q hxx hbb S hK hfr hlo hret H ls hP hS hl
  have hB : ∀ q, zAd A q → zAd A q := fun _ h => h
  have hl : lv_has ls 3 [(0, .ref (A 2))] := hl
  have S : CallFix p m c cX2_endItem 3 s args wsL_law RX2 := S
  have hd6 := hBd.1
  have hcn := hBd.2.1
  have hsl := hBd.2.2.1
  have hbe := hBd.2.2.2.2.2 (T9 0 1)
  by_cases hz0 : T9 5 (T9 0 1) = 0
  · skip
    refine lv_aload_n hxx hbb dX2_endItem_0 rfl (lv_at hl 0 rfl) ?_
    refine zgX2_29 S hK hP 2 (by decide) zk_2 dX2_endItem_1 ?_
    refine lv_aload_n hxx hbb dX2_endItem_4 rfl (lv_at hl 0 rfl) ?_
    refine zgX2_22 S hK hP 2 (by decide) zk_2 (v := nI (T9 0 1)) (hR.1.2.1) dX2_endItem_5 ?_
    refine zaldN S hK hP 9 7 (by decide) zk_9 zl_9 (by omega) (v := (-1)) ((hR.2.1 (T9 0 1) hd6).2.1.trans (by rw [hz0]; exact oI_0)) dX2_endItem_8 ?_
    refine lv_istore_n (lv' := [(1, .int (-1)), (0, .ref (A 2))]) hxx hbb dX2_endItem_9 rfl hl (by decide) rfl (fun ls hl => ?_)
    refine lv_aload_n hxx hbb dX2_endItem_10 rfl (lv_at hl 1 rfl) ?_
    refine zgX2_25 S hK hP 2 (by decide) zk_2 dX2_endItem_11 ?_
    refine lv_aload_n hxx hbb dX2_endItem_14 rfl (lv_at hl 1 rfl) ?_
    refine zgX2_22 S hK hP 2 (by decide) zk_2 (v := nI (T9 0 1)) (hR.1.2.1) dX2_endItem_15 ?_
    refine zaldN S hK hP 8 7 (by decide) zk_8 zl_8 (by omega) (v := nI (T9 4 (T9 0 1) - 1)) ((hR.2.1 (T9 0 1) hd6).1.trans (oI_pos (by omega))) dX2_endItem_18 ?_
    refine lv_istore_n (lv' := [(2, .int (nI (T9 4 (T9 0 1) - 1))), (1, .int (-1)), (0, .ref (A 2))]) hxx hbb dX2_endItem_19 rfl hl (by decide) rfl (fun ls hl => ?_)
    refine lv_aload_n hxx hbb dX2_endItem_20 rfl (lv_at hl 2 rfl) ?_
    refine zgX2_29 S hK hP 2 (by decide) zk_2 dX2_endItem_21 ?_
    refine lv_aload_n hxx hbb dX2_endItem_24 rfl (lv_at hl 2 rfl) ?_
    refine zgX2_22 S hK hP 2 (by decide) zk_2 (v := nI (T9 0 1)) (hR.1.2.1) dX2_endItem_25 ?_
    refine lv_iload_n hxx hbb dX2_endItem_28 rfl (lv_at hl 1 rfl) ?_
    refine lv_iconst (v := (-1)) hxx hbb dX2_endItem_29 (by decide) ?_
    refine lv_icmp_ne (tgt := 37) hxx hbb dX2_endItem_30 (by decide) (fun c_1 => ?_) (fun c_1 => ?_)
    · skip
      exact absurd rfl ‹¬ (-1 : Int32) = -1›
    · skip
      refine lv_iload_n hxx hbb dX2_endItem_33 rfl (lv_at hl 0 rfl) ?_
      refine lv_goto (tgt := 48) hxx hbb dX2_endItem_34 (by decide) ?_
      refine zastN S hK hP hS hB 9 7 (by decide) zk_9 zl_9 (by omega) dX2_endItem_48 (fun H locs hP hS => ?_)
      exact hret _ _ _ _ _ dX2_endItem_49 hP hS (⟨by unfold sItem; rw [if_pos hz0]; exact hR.ro (oI_pos hlv).symm, KR.rf.u (by omega)⟩)
  · skip
    refine lv_aload_n hxx hbb dX2_endItem_0 rfl (lv_at hl 0 rfl) ?_
    refine zgX2_29 S hK hP 2 (by decide) zk_2 dX2_endItem_1 ?_
    refine lv_aload_n hxx hbb dX2_endItem_4 rfl (lv_at hl 0 rfl) ?_
    refine zgX2_22 S hK hP 2 (by decide) zk_2 (v := nI (T9 0 1)) (hR.1.2.1) dX2_endItem_5 ?_
    refine zaldN S hK hP 9 7 (by decide) zk_9 zl_9 (by omega) (v := nI (T9 5 (T9 0 1) - 1)) ((hR.2.1 (T9 0 1) hd6).2.1.trans (oI_pos (by omega))) dX2_endItem_8 ?_
    refine lv_istore_n (lv' := [(1, .int (nI (T9 5 (T9 0 1) - 1))), (0, .ref (A 2))]) hxx hbb dX2_endItem_9 rfl hl (by decide) rfl (fun ls hl => ?_)
    refine lv_aload_n hxx hbb dX2_endItem_10 rfl (lv_at hl 1 rfl) ?_
    refine zgX2_25 S hK hP 2 (by decide) zk_2 dX2_endItem_11 ?_
    refine lv_aload_n hxx hbb dX2_endItem_14 rfl (lv_at hl 1 rfl) ?_
    refine zgX2_22 S hK hP 2 (by decide) zk_2 (v := nI (T9 0 1)) (hR.1.2.1) dX2_endItem_15 ?_
    refine zaldN S hK hP 8 7 (by decide) zk_8 zl_8 (by omega) (v := nI (T9 4 (T9 0 1) - 1)) ((hR.2.1 (T9 0 1) hd6).1.trans (oI_pos (by omega))) dX2_endItem_18 ?_
    refine lv_istore_n (lv' := [(2, .int (nI (T9 4 (T9 0 1) - 1))), (1, .int (nI (T9 5 (T9 0 1) - 1))), (0, .ref (A 2))]) hxx hbb dX2_endItem_19 rfl hl (by decide) rfl (fun ls hl => ?_)
    refine lv_aload_n hxx hbb dX2_endItem_20 rfl (lv_at hl 2 rfl) ?_
    refine zgX2_29 S hK hP 2 (by decide) zk_2 dX2_endItem_21 ?_
    refine lv_aload_n hxx hbb dX2_endItem_24 rfl (lv_at hl 2 rfl) ?_
    refine zgX2_22 S hK hP 2 (by decide) zk_2 (v := nI (T9 0 1)) (hR.1.2.1) dX2_endItem_25 ?_
    refine lv_iload_n hxx hbb dX2_endItem_28 rfl (lv_at hl 1 rfl) ?_
    refine lv_iconst (v := (-1)) hxx hbb dX2_endItem_29 (by decide) ?_
    refine lv_icmp_ne (tgt := 37) hxx hbb dX2_endItem_30 (by decide) (fun c_2 => ?_) (fun c_2 => ?_)
    · skip
      refine lv_aload_n hxx hbb dX2_endItem_37 rfl (lv_at hl 2 rfl) ?_
      refine zgX2_12 S hK hP 2 (by decide) zk_2 dX2_endItem_38 ?_
      refine lv_iconst (v := nI 1) hxx hbb dX2_endItem_41 (by decide) ?_
      refine lv_iload_n hxx hbb dX2_endItem_42 rfl (lv_at hl 1 rfl) ?_
      refine lv_iload_n hxx hbb dX2_endItem_43 rfl (lv_at hl 0 rfl) ?_
      refine lv_iconst (v := nI 0) hxx hbb dX2_endItem_44 (by decide) ?_
      refine ZI.callVN S hK hP hS hB (kX4_put l G A Y 3 (T9 0 2) (nI 1) (nI (T9 5 (T9 0 1) - 1)) (nI (T9 4 (T9 0 1) - 1)) (nI 0) zPP_3 hR.2.2.1 (by omega)) (znX2_114) zwX2_114 zdX4_put rfl ⟨Nat.le_trans (by decide) hfr, Nat.le_trans (by decide) hlo⟩ (by decide) (zcK2 zk_3) rfl rfl (Nat.le_of_ble_eq_true rfl) hl.1 dX2_endItem_45 ⟨Nat.zero_le _, Nat.zero_le _⟩ (fun r_3 Y_4 H locs hq_5 hP hS => ?_)
      obtain ⟨hr9, hPT⟩ := hq_5
      subst hr9
      have hR1 := hR.put (k := 1) (l := (T9 5 (T9 0 1) - 1)) (r := (T9 4 (T9 0 1) - 1)) hPT rfl rfl rfl rfl
      have hKr : KR Y Y_4 := KR.rf.pt hPT
      refine zastN S hK hP hS hB 9 7 (by decide) zk_9 zl_9 (by omega) dX2_endItem_48 (fun H locs hP hS => ?_)
      exact hret _ _ _ _ _ dX2_endItem_49 hP hS (⟨by unfold sItem; rw [if_neg hz0]; exact hR1.ro (oI_s _).symm, hKr.u (by omega)⟩)
    · skip
      exact absurd ‹nI _ = -1› (nI_nem1 (by omega))

set_option maxHeartbeats 4000000 in
set_option maxRecDepth 100000 in
theorem kX2_endRow (l : Launch) (G : zG) (A : Nat → Nat) (Y : zY) (T9 : nY) (nb : Nat) (hR : RD Y T9) (hBd : RB nb T9) (hnb : nb ≤ 190) (hlv : 1 ≤ T9 5 (T9 0 1)) : ZV l yX2_endRow cX2_endRow 3 1 25 G A Y [.ref (A 2)] (fun Y' => RD Y' (sRow T9) ∧ KR Y Y') := by
  refine ZV.enter (by decide) (Nat.le_of_ble_eq_true rfl) ?_
  intro p e s m args below meth c R Q hxx hbb S hK hfr hlo hret H ls hP hS hl
  have hB : ∀ q, zAd A q → zAd A q := fun _ h => h
  have hl : lv_has ls 3 [(0, .ref (A 2))] := hl
  have S : CallFix p m c cX2_endRow 3 s args wsL_law RX2 := S
  have hd6 := hBd.1
  have hcn := hBd.2.1
  have hsl := hBd.2.2.1
  have hbe := hBd.2.2.2.2.2 (T9 0 1)
  by_cases hz0 : T9 6 (T9 0 1) = 0
  · skip
    refine lv_aload_n hxx hbb dX2_endRow_0 rfl (lv_at hl 0 rfl) ?_
    refine zgX2_32 S hK hP 2 (by decide) zk_2 dX2_endRow_1 ?_
    refine lv_aload_n hxx hbb dX2_endRow_4 rfl (lv_at hl 0 rfl) ?_
    refine zgX2_22 S hK hP 2 (by decide) zk_2 (v := nI (T9 0 1)) (hR.1.2.1) dX2_endRow_5 ?_
    refine zaldN S hK hP 10 7 (by decide) zk_10 zl_10 (by omega) (v := (-1)) ((hR.2.1 (T9 0 1) hd6).2.2.trans (by rw [hz0]; exact oI_0)) dX2_endRow_8 ?_
    refine lv_istore_n (lv' := [(1, .int (-1)), (0, .ref (A 2))]) hxx hbb dX2_endRow_9 rfl hl (by decide) rfl (fun ls hl => ?_)
    refine lv_aload_n hxx hbb dX2_endRow_10 rfl (lv_at hl 1 rfl) ?_
    refine zgX2_29 S hK hP 2 (by decide) zk_2 dX2_endRow_11 ?_
    refine lv_aload_n hxx hbb dX2_endRow_14 rfl (lv_at hl 1 rfl) ?_
    refine zgX2_22 S hK hP 2 (by decide) zk_2 (v := nI (T9 0 1)) (hR.1.2.1) dX2_endRow_15 ?_
    refine zaldN S hK hP 9 7 (by decide) zk_9 zl_9 (by omega) (v := nI (T9 5 (T9 0 1) - 1)) ((hR.2.1 (T9 0 1) hd6).2.1.trans (oI_pos (by omega))) dX2_endRow_18 ?_
    refine lv_istore_n (lv' := [(2, .int (nI (T9 5 (T9 0 1) - 1))), (1, .int (-1)), (0, .ref (A 2))]) hxx hbb dX2_endRow_19 rfl hl (by decide) rfl (fun ls hl => ?_)
    refine lv_aload_n hxx hbb dX2_endRow_20 rfl (lv_at hl 2 rfl) ?_
    refine zgX2_32 S hK hP 2 (by decide) zk_2 dX2_endRow_21 ?_
    refine lv_aload_n hxx hbb dX2_endRow_24 rfl (lv_at hl 2 rfl) ?_
    refine zgX2_22 S hK hP 2 (by decide) zk_2 (v := nI (T9 0 1)) (hR.1.2.1) dX2_endRow_25 ?_
    refine lv_iload_n hxx hbb dX2_endRow_28 rfl (lv_at hl 1 rfl) ?_
    refine lv_iconst (v := (-1)) hxx hbb dX2_endRow_29 (by decide) ?_
    refine lv_icmp_ne (tgt := 37) hxx hbb dX2_endRow_30 (by decide) (fun c_1 => ?_) (fun c_1 => ?_)
    · skip
      exact absurd rfl ‹¬ (-1 : Int32) = -1›
    · skip
      refine lv_iload_n hxx hbb dX2_endRow_33 rfl (lv_at hl 0 rfl) ?_
      refine lv_goto (tgt := 48) hxx hbb dX2_endRow_34 (by decide) ?_
      refine zastN S hK hP hS hB 10 7 (by decide) zk_10 zl_10 (by omega) dX2_endRow_48 (fun H locs hP hS => ?_)
      refine lv_aload_n hxx hbb dX2_endRow_49 rfl (lv_at hl 2 rfl) ?_
      refine zgX2_29 S hK hP 2 (by decide) zk_2 dX2_endRow_50 ?_
      refine lv_aload_n hxx hbb dX2_endRow_53 rfl (lv_at hl 2 rfl) ?_
      refine zgX2_22 S hK hP 2 (by decide) zk_2 (v := nI (T9 0 1)) ((zU_np (by decide)).trans (hR.1.2.1)) dX2_endRow_54 ?_
      refine lv_iconst (v := (-1)) hxx hbb dX2_endRow_57 (by decide) ?_
      refine zastN S hK hP hS hB 9 7 (by decide) zk_9 zl_9 (by omega) dX2_endRow_58 (fun H locs hP hS => ?_)
      exact hret _ _ _ _ _ dX2_endRow_59 hP hS (⟨by unfold sRow; rw [if_pos hz0]; exact (hR.ch (oI_pos hlv).symm).ro oI_0.symm, (KR.rf.u (by omega)).u (by omega)⟩)
  · skip
    refine lv_aload_n hxx hbb dX2_endRow_0 rfl (lv_at hl 0 rfl) ?_
    refine zgX2_32 S hK hP 2 (by decide) zk_2 dX2_endRow_1 ?_
    refine lv_aload_n hxx hbb dX2_endRow_4 rfl (lv_at hl 0 rfl) ?_
    refine zgX2_22 S hK hP 2 (by decide) zk_2 (v := nI (T9 0 1)) (hR.1.2.1) dX2_endRow_5 ?_
    refine zaldN S hK hP 10 7 (by decide) zk_10 zl_10 (by omega) (v := nI (T9 6 (T9 0 1) - 1)) ((hR.2.1 (T9 0 1) hd6).2.2.trans (oI_pos (by omega))) dX2_endRow_8 ?_
    refine lv_istore_n (lv' := [(1, .int (nI (T9 6 (T9 0 1) - 1))), (0, .ref (A 2))]) hxx hbb dX2_endRow_9 rfl hl (by decide) rfl (fun ls hl => ?_)
    refine lv_aload_n hxx hbb dX2_endRow_10 rfl (lv_at hl 1 rfl) ?_
    refine zgX2_29 S hK hP 2 (by decide) zk_2 dX2_endRow_11 ?_
    refine lv_aload_n hxx hbb dX2_endRow_14 rfl (lv_at hl 1 rfl) ?_
    refine zgX2_22 S hK hP 2 (by decide) zk_2 (v := nI (T9 0 1)) (hR.1.2.1) dX2_endRow_15 ?_
    refine zaldN S hK hP 9 7 (by decide) zk_9 zl_9 (by omega) (v := nI (T9 5 (T9 0 1) - 1)) ((hR.2.1 (T9 0 1) hd6).2.1.trans (oI_pos (by omega))) dX2_endRow_18 ?_
    refine lv_istore_n (lv' := [(2, .int (nI (T9 5 (T9 0 1) - 1))), (1, .int (nI (T9 6 (T9 0 1) - 1))), (0, .ref (A 2))]) hxx hbb dX2_endRow_19 rfl hl (by decide) rfl (fun ls hl => ?_)
    refine lv_aload_n hxx hbb dX2_endRow_20 rfl (lv_at hl 2 rfl) ?_
    refine zgX2_32 S hK hP 2 (by decide) zk_2 dX2_endRow_21 ?_
    refine lv_aload_n hxx hbb dX2_endRow_24 rfl (lv_at hl 2 rfl) ?_
    refine zgX2_22 S hK hP 2 (by decide) zk_2 (v := nI (T9 0 1)) (hR.1.2.1) dX2_endRow_25 ?_
    refine lv_iload_n hxx hbb dX2_endRow_28 rfl (lv_at hl 1 rfl) ?_
    refine lv_iconst (v := (-1)) hxx hbb dX2_endRow_29 (by decide) ?_
    refine lv_icmp_ne (tgt := 37) hxx hbb dX2_endRow_30 (by decide) (fun c_2 => ?_) (fun c_2 => ?_)
    · skip
      refine lv_aload_n hxx hbb dX2_endRow_37 rfl (lv_at hl 2 rfl) ?_
      refine zgX2_12 S hK hP 2 (by decide) zk_2 dX2_endRow_38 ?_
      refine lv_iconst (v := nI 2) hxx hbb dX2_endRow_41 (by decide) ?_
      refine lv_iload_n hxx hbb dX2_endRow_42 rfl (lv_at hl 1 rfl) ?_
      refine lv_iload_n hxx hbb dX2_endRow_43 rfl (lv_at hl 0 rfl) ?_
      refine lv_iconst (v := nI 0) hxx hbb dX2_endRow_44 (by decide) ?_
      refine ZI.callVN S hK hP hS hB (kX4_put l G A Y 3 (T9 0 2) (nI 2) (nI (T9 6 (T9 0 1) - 1)) (nI (T9 5 (T9 0 1) - 1)) (nI 0) zPP_3 hR.2.2.1 (by omega)) (znX2_114) zwX2_114 zdX4_put rfl ⟨Nat.le_trans (by decide) hfr, Nat.le_trans (by decide) hlo⟩ (by decide) (zcK2 zk_3) rfl rfl (Nat.le_of_ble_eq_true rfl) hl.1 dX2_endRow_45 ⟨Nat.zero_le _, Nat.zero_le _⟩ (fun r_3 Y_4 H locs hq_5 hP hS => ?_)
      obtain ⟨hr9, hPT⟩ := hq_5
      subst hr9
      have hR1 := hR.put (k := 2) (l := (T9 6 (T9 0 1) - 1)) (r := (T9 5 (T9 0 1) - 1)) hPT rfl rfl rfl rfl
      have hKr : KR Y Y_4 := KR.rf.pt hPT
      refine zastN S hK hP hS hB 10 7 (by decide) zk_10 zl_10 (by omega) dX2_endRow_48 (fun H locs hP hS => ?_)
      refine lv_aload_n hxx hbb dX2_endRow_49 rfl (lv_at hl 2 rfl) ?_
      refine zgX2_29 S hK hP 2 (by decide) zk_2 dX2_endRow_50 ?_
      refine lv_aload_n hxx hbb dX2_endRow_53 rfl (lv_at hl 2 rfl) ?_
      refine zgX2_22 S hK hP 2 (by decide) zk_2 (v := nI (T9 0 1)) ((zU_np (by decide)).trans (((congrFun (hPT.2.1 2 (by decide) (by decide) (by decide) (by decide) (by decide)) 2).trans hR.1.2.1))) dX2_endRow_54 ?_
      refine lv_iconst (v := (-1)) hxx hbb dX2_endRow_57 (by decide) ?_
      refine zastN S hK hP hS hB 9 7 (by decide) zk_9 zl_9 (by omega) dX2_endRow_58 (fun H locs hP hS => ?_)
      exact hret _ _ _ _ _ dX2_endRow_59 hP hS (⟨by unfold sRow; rw [if_neg hz0]; exact (hR1.ch (oI_s _).symm).ro oI_0.symm, (hKr.u (by omega)).u (by omega)⟩)
    · skip
      exact absurd ‹nI _ = -1› (nI_nem1 (by omega))

set_option maxHeartbeats 4000000 in
set_option maxRecDepth 100000 in
theorem kX2_takeOpening (l : Launch) (G : zG) (A : Nat → Nat) (Y : zY) (T9 : nY) (nb : Nat) (hR : RD Y T9) (hBd : RB nb T9) (hnb : nb ≤ 190) : ZI l yX2_takeOpening cX2_takeOpening 1 (.boolean) 1 20 G A Y [.ref (A 2)] (fun r Y' => ((T9 0 1 < 6) ∧ r = nI 1 ∧ RD Y' (sOpen T9) ∧ KR Y Y') ∨ (¬ (T9 0 1 < 6) ∧ r = nI 0 ∧ Y' = Y)) := by
  refine ZI.enter (by decide) (Nat.le_of_ble_eq_true rfl) ?_
  intro p e s m args below meth c R Q hxx hbb S hK hfr hlo hret H ls hP hS hl
  have hB : ∀ q, zAd A q → zAd A q := fun _ h => h
  have hl : lv_has ls 1 [(0, .ref (A 2))] := hl
  have S : CallFix p m c cX2_takeOpening 1 s args wsL_law RX2 := S
  have hd6 := hBd.1
  have hcn := hBd.2.1
  have hsl := hBd.2.2.1
  have hbe := hBd.2.2.2.2.2 (T9 0 1)
  refine lv_aload_n hxx hbb dX2_takeOpening_0 rfl (lv_at hl 0 rfl) ?_
  refine zgX2_22 S hK hP 2 (by decide) zk_2 (v := nI (T9 0 1)) (hR.1.2.1) dX2_takeOpening_1 ?_
  refine lv_bipush (v := nI 6) hxx hbb dX2_takeOpening_4 (by decide) ?_
  refine zcmp_lt (tgt := 11) S (by omega) (by omega) dX2_takeOpening_6 (by decide) (fun c_1 => ?_) (fun c_1 => ?_)
  · skip
    refine lv_aload_n hxx hbb dX2_takeOpening_11 rfl (lv_at hl 0 rfl) ?_
    refine lv_dup hxx hbb dX2_takeOpening_12 rfl ?_
    refine zgX2_22 S hK hP 2 (by decide) zk_2 (v := nI (T9 0 1)) (hR.1.2.1) dX2_takeOpening_13 ?_
    refine lv_iconst (v := nI 1) hxx hbb dX2_takeOpening_16 (by decide) ?_
    refine zaddN S dX2_takeOpening_17 ?_
    refine zpX2_22 S hK hP hS hB 2 (by decide) zk_2 dX2_takeOpening_18 (fun H locs hP hS => ?_)
    refine lv_aload_n hxx hbb dX2_takeOpening_21 rfl (lv_at hl 0 rfl) ?_
    refine ZV.callV S hK hP hS hB (kX2_beginBracket l G A (zU Y 2 2 (nI (T9 0 1 + 1))) (nU T9 0 1 (T9 0 1 + 1)) nb hR.dp ⟨by rw [nU_eq]; omega, by rw [nU_nj (by decide)]; exact hcn, by rw [nU_nj (by decide)]; exact hsl, by rw [nU_nj (by decide)]; exact hBd.2.2.2.1, by rw [nU_nj (by decide)]; exact hBd.2.2.2.2.1, fun e => by rw [nU_np (by decide), nU_np (by decide), nU_np (by decide)]; exact hBd.2.2.2.2.2 e⟩ hnb) zwX2_48 zdX2_beginBracket rfl ⟨Nat.le_trans (by decide) hfr, Nat.le_trans (by decide) hlo⟩ (by decide) (zcK1 zk_2) rfl rfl (Nat.le_of_ble_eq_true rfl) hl.1 dX2_takeOpening_22 ⟨Nat.zero_le _, Nat.zero_le _⟩ (fun Y_3 H locs hq_4 hP hS => ?_)
    obtain ⟨hR1, hKr1⟩ := hq_4
    refine lv_iconst (v := nI 1) hxx hbb dX2_takeOpening_25 (by decide) ?_
    exact hret _ _ _ _ _ _ dX2_takeOpening_26 (by first | rfl | decide) hP hS (Or.inl ⟨by omega, rfl, hR1, (KR.rf.u (by omega)).trans hKr1⟩)
  · skip
    refine lv_iconst (v := nI 0) hxx hbb dX2_takeOpening_9 (by decide) ?_
    exact hret _ _ _ _ _ _ dX2_takeOpening_10 (by first | rfl | decide) hP hS (Or.inr ⟨by omega, rfl, rfl⟩)

set_option maxHeartbeats 4000000 in
set_option maxRecDepth 100000 in
theorem kX2_takeOthersSign (l : Launch) (G : zG) (A : Nat → Nat) (Y : zY) (k : Nat) (T9 : nY) (nb : Nat) (hR : RD Y T9) (hBd : RB nb T9) (hnb : nb ≤ 190) (hc : k < 65536) : ZI l yX2_takeOthersSign cX2_takeOthersSign 2 (.boolean) 0 0 G A Y [.ref (A 2), .int (nI k)] (fun r Y' => ((k = 94) ∧ r = nI 1 ∧ RD Y' (nU (nU T9 0 4 1) 0 0 3) ∧ KR Y Y') ∨ (¬ (k = 94) ∧ r = nI 0 ∧ Y' = Y)) := by
  refine ZI.enter (by decide) (Nat.le_of_ble_eq_true rfl) ?_
  intro p e s m args below meth c R Q hxx hbb S hK hfr hlo hret H ls hP hS hl
  have hB : ∀ q, zAd A q → zAd A q := fun _ h => h
  have hl : lv_has ls 2 [(0, .ref (A 2)), (1, .int (nI k))] := hl
  have S : CallFix p m c cX2_takeOthersSign 2 s args wsL_law RX2 := S
  have hd6 := hBd.1
  have hcn := hBd.2.1
  have hsl := hBd.2.2.1
  have hbe := hBd.2.2.2.2.2 (T9 0 1)
  refine lv_iload_n hxx hbb dX2_takeOthersSign_0 rfl (lv_at hl 1 rfl) ?_
  refine lv_bipush (v := nI 94) hxx hbb dX2_takeOthersSign_1 (by decide) ?_
  refine zcmp_eq (tgt := 8) S (by omega) (by omega) dX2_takeOthersSign_3 (by decide) (fun c_1 => ?_) (fun c_1 => ?_)
  · skip
    refine lv_aload_n hxx hbb dX2_takeOthersSign_8 rfl (lv_at hl 0 rfl) ?_
    refine lv_iconst (v := nI 1) hxx hbb dX2_takeOthersSign_9 (by decide) ?_
    refine zpX2_38 S hK hP hS hB 2 (by decide) zk_2 (by first | exact ⟨rfl, rfl⟩ | decide) dX2_takeOthersSign_10 (fun H locs hP hS => ?_)
    refine lv_aload_n hxx hbb dX2_takeOthersSign_13 rfl (lv_at hl 0 rfl) ?_
    refine lv_iconst (v := nI 5) hxx hbb dX2_takeOthersSign_14 (by decide) ?_
    refine zpX2_18 S hK hP hS hB 2 (by decide) zk_2 dX2_takeOthersSign_15 (fun H locs hP hS => ?_)
    refine lv_iconst (v := nI 1) hxx hbb dX2_takeOthersSign_18 (by decide) ?_
    exact hret _ _ _ _ _ _ dX2_takeOthersSign_19 (by first | rfl | decide) hP hS (Or.inl ⟨by omega, rfl, hR.so.st rfl, (KR.rf.u (by omega)).u (by omega)⟩)
  · skip
    refine lv_iconst (v := nI 0) hxx hbb dX2_takeOthersSign_6 (by decide) ?_
    exact hret _ _ _ _ _ _ dX2_takeOthersSign_7 (by first | rfl | decide) hP hS (Or.inr ⟨by omega, rfl, rfl⟩)

set_option maxHeartbeats 4000000 in
set_option maxRecDepth 100000 in
theorem kX2_takeSetLetter (l : Launch) (G : zG) (A : Nat → Nat) (Y : zY) (k : Nat) (T9 : nY) (nb : Nat) (hR : RD Y T9) (hBd : RB nb T9) (hnb : nb ≤ 190) (hc : k < 65536) : ZI l yX2_takeSetLetter cX2_takeSetLetter 2 (.boolean) 1 20 G A Y [.ref (A 2), .int (nI k)] (fun r Y' => ((97 ≤ k ∧ k ≤ 122) ∧ r = nI 1 ∧ RD Y' (nU (nU T9 0 3 (T9 0 3 ||| 2 ^ (k - 97))) 0 0 4) ∧ KR Y Y') ∨ (¬ (97 ≤ k ∧ k ≤ 122) ∧ r = nI 0 ∧ Y' = Y)) := by
  refine ZI.enter (by decide) (Nat.le_of_ble_eq_true rfl) ?_
  intro p e s m args below meth c R Q hxx hbb S hK hfr hlo hret H ls hP hS hl
  have hB : ∀ q, zAd A q → zAd A q := fun _ h => h
  have hl : lv_has ls 2 [(0, .ref (A 2)), (1, .int (nI k))] := hl
  have S : CallFix p m c cX2_takeSetLetter 2 s args wsL_law RX2 := S
  have hd6 := hBd.1
  have hcn := hBd.2.1
  have hsl := hBd.2.2.1
  have hbe := hBd.2.2.2.2.2 (T9 0 1)
  refine lv_iload_n hxx hbb dX2_takeSetLetter_0 rfl (lv_at hl 1 rfl) ?_
  refine ZI.callSN S hK hP hS hB (kX5_isLetter l G A Y k (by omega)) (znX2_82) zwX2_82 zdX5_isLetter rfl ⟨Nat.le_trans (by decide) hfr, Nat.le_trans (by decide) hlo⟩ rfl (Nat.le_of_ble_eq_true rfl) hl.1 dX2_takeSetLetter_1 ⟨Nat.zero_le _, Nat.zero_le _⟩ (fun r_1 Y_2 H locs hq_3 hP hS => ?_)
  rcases hq_3 with ⟨hb_4, hr9, hY9⟩ | ⟨hb_4, hr9, hY9⟩
  · skip
    subst hr9; rw [hY9] at hP
    refine zif_ne (tgt := 9) S (by omega) dX2_takeSetLetter_4 (by decide) (fun c_5 => ?_) (fun c_5 => ?_)
    · skip
      refine lv_aload_n hxx hbb dX2_takeSetLetter_9 rfl (lv_at hl 0 rfl) ?_
      refine lv_dup hxx hbb dX2_takeSetLetter_10 rfl ?_
      refine zgX2_35 S hK hP 2 (by decide) zk_2 (v := nI (T9 0 3)) (hR.1.2.2.1) dX2_takeSetLetter_11 ?_
      refine lv_iload_n hxx hbb dX2_takeSetLetter_14 rfl (lv_at hl 1 rfl) ?_
      refine ZI.callS S hK hP hS hB (kX2_bitOf l G A Y k (by omega)) zwX2_85 zdX2_bitOf rfl ⟨Nat.le_trans (by decide) hfr, Nat.le_trans (by decide) hlo⟩ rfl (Nat.le_of_ble_eq_true rfl) hl.1 dX2_takeSetLetter_15 ⟨Nat.zero_le _, Nat.zero_le _⟩ (fun r_6 Y_7 H locs hq_8 hP hS => ?_)
      obtain ⟨hr9, hY9⟩ := hq_8
      subst hr9; rw [hY9] at hP
      refine lv_ior hxx hbb dX2_takeSetLetter_18 ?_
      have hpw : 2 ^ (k - 97) < 2 ^ 26 := Nat.pow_lt_pow_right (by decide) (by omega)
      rw [zor hsl hpw]
      refine zpX2_35 S hK hP hS hB 2 (by decide) zk_2 dX2_takeSetLetter_19 (fun H locs hP hS => ?_)
      refine lv_aload_n hxx hbb dX2_takeSetLetter_22 rfl (lv_at hl 0 rfl) ?_
      refine lv_bipush (v := nI 6) hxx hbb dX2_takeSetLetter_23 (by decide) ?_
      refine zpX2_18 S hK hP hS hB 2 (by decide) zk_2 dX2_takeSetLetter_25 (fun H locs hP hS => ?_)
      refine lv_iconst (v := nI 1) hxx hbb dX2_takeSetLetter_28 (by decide) ?_
      exact hret _ _ _ _ _ _ dX2_takeSetLetter_29 (by first | rfl | decide) hP hS (Or.inl ⟨by omega, rfl, (hR.sl rfl).st rfl, (KR.rf.u (by omega)).u (by omega)⟩)
    · skip
      exact absurd c_5 (by decide)
  · skip
    subst hr9; rw [hY9] at hP
    refine zif_ne (tgt := 9) S (by omega) dX2_takeSetLetter_4 (by decide) (fun c_9 => ?_) (fun c_9 => ?_)
    · skip
      exact absurd c_9 (by decide)
    · skip
      refine lv_iconst (v := nI 0) hxx hbb dX2_takeSetLetter_7 (by decide) ?_
      exact hret _ _ _ _ _ _ dX2_takeSetLetter_8 (by first | rfl | decide) hP hS (Or.inr ⟨by omega, rfl, rfl⟩)

set_option maxHeartbeats 4000000 in
set_option maxRecDepth 100000 in
theorem kX2_takeSetEnd (l : Launch) (G : zG) (A : Nat → Nat) (Y : zY) (k : Nat) (T9 : nY) (nb : Nat) (hR : RD Y T9) (hBd : RB nb T9) (hnb : nb ≤ 190) (hc : k < 65536) : ZI l yX2_takeSetEnd cX2_takeSetEnd 2 (.boolean) 2 46 G A Y [.ref (A 2), .int (nI k)] (fun r Y' => ((k = 93) ∧ r = nI 1 ∧ RD Y' (sAtom T9 (if T9 0 4 = 0 then T9 0 3 else cmask (T9 0 3))) ∧ KR Y Y') ∨ (¬ (k = 93) ∧ r = nI 0 ∧ Y' = Y)) := by
  refine ZI.enter (by decide) (Nat.le_of_ble_eq_true rfl) ?_
  intro p e s m args below meth c R Q hxx hbb S hK hfr hlo hret H ls hP hS hl
  have hB : ∀ q, zAd A q → zAd A q := fun _ h => h
  have hl : lv_has ls 2 [(0, .ref (A 2)), (1, .int (nI k))] := hl
  have S : CallFix p m c cX2_takeSetEnd 2 s args wsL_law RX2 := S
  have hd6 := hBd.1
  have hcn := hBd.2.1
  have hsl := hBd.2.2.1
  have hbe := hBd.2.2.2.2.2 (T9 0 1)
  have hso := hBd.2.2.2.1
  refine lv_iload_n hxx hbb dX2_takeSetEnd_0 rfl (lv_at hl 1 rfl) ?_
  refine lv_bipush (v := nI 93) hxx hbb dX2_takeSetEnd_1 (by decide) ?_
  refine zcmp_eq (tgt := 8) S (by omega) (by omega) dX2_takeSetEnd_3 (by decide) (fun c_1 => ?_) (fun c_1 => ?_)
  · skip
    refine lv_aload_n hxx hbb dX2_takeSetEnd_8 rfl (lv_at hl 0 rfl) ?_
    refine lv_aload_n hxx hbb dX2_takeSetEnd_9 rfl (lv_at hl 0 rfl) ?_
    refine zgX2_38 S hK hP 2 (by decide) zk_2 (v := nI (T9 0 4)) (hR.1.2.2.2.1) dX2_takeSetEnd_10 ?_
    refine zif_eq (tgt := 28) S (by omega) dX2_takeSetEnd_13 (by decide) (fun c_2 => ?_) (fun c_2 => ?_)
    · skip
      refine lv_aload_n hxx hbb dX2_takeSetEnd_28 rfl (lv_at hl 0 rfl) ?_
      refine zgX2_35 S hK hP 2 (by decide) zk_2 (v := nI (T9 0 3)) (hR.1.2.2.1) dX2_takeSetEnd_29 ?_
      refine ZV.callV S hK hP hS hB (kX2_endAtom l G A Y (T9 0 3) T9 nb hR hBd hnb) zwX2_89 zdX2_endAtom rfl ⟨Nat.le_trans (by decide) hfr, Nat.le_trans (by decide) hlo⟩ (by decide) (zcK1 zk_2) rfl rfl (Nat.le_of_ble_eq_true rfl) hl.1 dX2_takeSetEnd_32 ⟨Nat.zero_le _, Nat.zero_le _⟩ (fun Y_4 H locs hq_5 hP hS => ?_)
      obtain ⟨hR1, hKr1⟩ := hq_5
      refine lv_iconst (v := nI 1) hxx hbb dX2_takeSetEnd_35 (by decide) ?_
      exact hret _ _ _ _ _ _ dX2_takeSetEnd_36 (by first | rfl | decide) hP hS (Or.inl ⟨by omega, rfl, by rw [if_pos c_2]; exact hR1, hKr1⟩)
    · skip
      refine zldc S (v := 67108863) zxX2_93 dX2_takeSetEnd_16 ?_
      rw [show (67108863 : Int32) = nI 67108863 from rfl]
      refine lv_aload_n hxx hbb dX2_takeSetEnd_18 rfl (lv_at hl 0 rfl) ?_
      refine zgX2_35 S hK hP 2 (by decide) zk_2 (v := nI (T9 0 3)) (hR.1.2.2.1) dX2_takeSetEnd_19 ?_
      refine lv_iconst (v := (-1)) hxx hbb dX2_takeSetEnd_22 (by decide) ?_
      refine lv_ixor hxx hbb dX2_takeSetEnd_23 ?_
      refine lv_iand hxx hbb dX2_takeSetEnd_24 ?_
      rw [cmask_eq]
      refine lv_goto (tgt := 32) hxx hbb dX2_takeSetEnd_25 (by decide) ?_
      refine ZV.callV S hK hP hS hB (kX2_endAtom l G A Y (cmask (T9 0 3)) T9 nb hR hBd hnb) zwX2_89 zdX2_endAtom rfl ⟨Nat.le_trans (by decide) hfr, Nat.le_trans (by decide) hlo⟩ (by decide) (zcK1 zk_2) rfl rfl (Nat.le_of_ble_eq_true rfl) hl.1 dX2_takeSetEnd_32 ⟨Nat.zero_le _, Nat.zero_le _⟩ (fun Y_7 H locs hq_8 hP hS => ?_)
      obtain ⟨hR1, hKr1⟩ := hq_8
      refine lv_iconst (v := nI 1) hxx hbb dX2_takeSetEnd_35 (by decide) ?_
      exact hret _ _ _ _ _ _ dX2_takeSetEnd_36 (by first | rfl | decide) hP hS (Or.inl ⟨by omega, rfl, by rw [if_neg c_2]; exact hR1, hKr1⟩)
  · skip
    refine lv_iconst (v := nI 0) hxx hbb dX2_takeSetEnd_6 (by decide) ?_
    exact hret _ _ _ _ _ _ dX2_takeSetEnd_7 (by first | rfl | decide) hP hS (Or.inr ⟨by omega, rfl, rfl⟩)

set_option maxHeartbeats 4000000 in
set_option maxRecDepth 100000 in
theorem kX2_takeFirstDigit (l : Launch) (G : zG) (A : Nat → Nat) (Y : zY) (k : Nat) (T9 : nY) (nb : Nat) (hR : RD Y T9) (hBd : RB nb T9) (hnb : nb ≤ 190) (hc : k < 65536) (hlv : 1 ≤ T9 4 (T9 0 1)) : ZI l yX2_takeFirstDigit cX2_takeFirstDigit 2 (.boolean) 2 47 G A Y [.ref (A 2), .int (nI k)] (fun r Y' => ((48 ≤ k ∧ k ≤ 57) ∧ r = nI 1 ∧ RD Y' (nU (sSuf (nU T9 0 5 (k - 48)) 6 (k - 48)) 0 0 6) ∧ KR Y Y') ∨ (¬ (48 ≤ k ∧ k ≤ 57) ∧ r = nI 0 ∧ Y' = Y)) := by
  refine ZI.enter (by decide) (Nat.le_of_ble_eq_true rfl) ?_
  intro p e s m args below meth c R Q hxx hbb S hK hfr hlo hret H ls hP hS hl
  have hB : ∀ q, zAd A q → zAd A q := fun _ h => h
  have hl : lv_has ls 2 [(0, .ref (A 2)), (1, .int (nI k))] := hl
  have S : CallFix p m c cX2_takeFirstDigit 2 s args wsL_law RX2 := S
  have hd6 := hBd.1
  have hcn := hBd.2.1
  have hsl := hBd.2.2.1
  have hbe := hBd.2.2.2.2.2 (T9 0 1)
  refine lv_iload_n hxx hbb dX2_takeFirstDigit_0 rfl (lv_at hl 1 rfl) ?_
  refine ZI.callSN S hK hP hS hB (kX5_isDigit l G A Y k (by omega)) (znX2_98) zwX2_98 zdX5_isDigit rfl ⟨Nat.le_trans (by decide) hfr, Nat.le_trans (by decide) hlo⟩ rfl (Nat.le_of_ble_eq_true rfl) hl.1 dX2_takeFirstDigit_1 ⟨Nat.zero_le _, Nat.zero_le _⟩ (fun r_1 Y_2 H locs hq_3 hP hS => ?_)
  rcases hq_3 with ⟨hb_4, hr9, hY9⟩ | ⟨hb_4, hr9, hY9⟩
  · skip
    subst hr9; rw [hY9] at hP
    refine zif_ne (tgt := 9) S (by omega) dX2_takeFirstDigit_4 (by decide) (fun c_5 => ?_) (fun c_5 => ?_)
    · skip
      refine lv_aload_n hxx hbb dX2_takeFirstDigit_9 rfl (lv_at hl 0 rfl) ?_
      refine lv_iload_n hxx hbb dX2_takeFirstDigit_10 rfl (lv_at hl 1 rfl) ?_
      refine lv_bipush (v := nI 48) hxx hbb dX2_takeFirstDigit_11 (by decide) ?_
      refine zsubN S (by omega) dX2_takeFirstDigit_13 ?_
      refine zpX2_42 S hK hP hS hB 2 (by decide) zk_2 dX2_takeFirstDigit_14 (fun H locs hP hS => ?_)
      refine lv_aload_n hxx hbb dX2_takeFirstDigit_17 rfl (lv_at hl 0 rfl) ?_
      refine lv_bipush (v := nI 6) hxx hbb dX2_takeFirstDigit_18 (by decide) ?_
      refine lv_aload_n hxx hbb dX2_takeFirstDigit_20 rfl (lv_at hl 0 rfl) ?_
      refine zgX2_42 S hK hP 2 (by decide) zk_2 (v := nI (k - 48)) (zU_eq) dX2_takeFirstDigit_21 ?_
      refine ZV.callV S hK hP hS hB (kX2_endSuffix l G A (zU Y 2 8 (nI (k - 48))) 6 (k - 48) (nU T9 0 5 (k - 48)) nb hR.li ⟨by rw [nU_nj (by decide)]; exact hd6, by rw [nU_nj (by decide)]; exact hcn, by rw [nU_nj (by decide)]; exact hsl, by rw [nU_nj (by decide)]; exact hBd.2.2.2.1, by rw [nU_eq]; omega, fun e => by rw [nU_np (by decide), nU_np (by decide), nU_np (by decide)]; exact hBd.2.2.2.2.2 e⟩ hnb (by rw [nU_nj (j := 5) (k := 1) (by decide), nU_np (by decide)]; exact hlv) (by omega) (fun h => absurd rfl h)) zwX2_101 zdX2_endSuffix rfl ⟨Nat.le_trans (by decide) hfr, Nat.le_trans (by decide) hlo⟩ (by decide) (zcK1 zk_2) rfl rfl (Nat.le_of_ble_eq_true rfl) hl.1 dX2_takeFirstDigit_24 ⟨Nat.zero_le _, Nat.zero_le _⟩ (fun Y_7 H locs hq_8 hP hS => ?_)
      obtain ⟨hR1, hKr1⟩ := hq_8
      refine lv_aload_n hxx hbb dX2_takeFirstDigit_27 rfl (lv_at hl 0 rfl) ?_
      refine lv_iconst (v := nI 3) hxx hbb dX2_takeFirstDigit_28 (by decide) ?_
      refine zpX2_18 S hK hP hS hB 2 (by decide) zk_2 dX2_takeFirstDigit_29 (fun H locs hP hS => ?_)
      refine lv_iconst (v := nI 1) hxx hbb dX2_takeFirstDigit_32 (by decide) ?_
      exact hret _ _ _ _ _ _ dX2_takeFirstDigit_33 (by first | rfl | decide) hP hS (Or.inl ⟨by omega, rfl, hR1.st rfl, ((KR.rf.u (by omega)).trans hKr1).u (by omega)⟩)
    · skip
      exact absurd c_5 (by decide)
  · skip
    subst hr9; rw [hY9] at hP
    refine zif_ne (tgt := 9) S (by omega) dX2_takeFirstDigit_4 (by decide) (fun c_9 => ?_) (fun c_9 => ?_)
    · skip
      exact absurd c_9 (by decide)
    · skip
      refine lv_iconst (v := nI 0) hxx hbb dX2_takeFirstDigit_7 (by decide) ?_
      exact hret _ _ _ _ _ _ dX2_takeFirstDigit_8 (by first | rfl | decide) hP hS (Or.inr ⟨by omega, rfl, rfl⟩)

set_option maxHeartbeats 4000000 in
set_option maxRecDepth 100000 in
theorem kX2_takeSecondDigit (l : Launch) (G : zG) (A : Nat → Nat) (Y : zY) (k : Nat) (T9 : nY) (nb : Nat) (hR : RD Y T9) (hBd : RB nb T9) (hnb : nb ≤ 190) (hc : k < 65536) (hlv : 1 ≤ T9 4 (T9 0 1)) (h6 : T9 1 (T9 4 (T9 0 1) - 1) = 6) : ZI l yX2_takeSecondDigit cX2_takeSecondDigit 2 (.boolean) 1 22 G A Y [.ref (A 2), .int (nI k)] (fun r Y' => ((48 ≤ k ∧ k ≤ 57) ∧ r = nI 1 ∧ RD Y' (nU (nU T9 3 (T9 4 (T9 0 1) - 1) (T9 0 5 * 10 + (k - 48))) 0 0 1) ∧ KR Y Y') ∨ (¬ (48 ≤ k ∧ k ≤ 57) ∧ r = nI 0 ∧ Y' = Y)) := by
  refine ZI.enter (by decide) (Nat.le_of_ble_eq_true rfl) ?_
  intro p e s m args below meth c R Q hxx hbb S hK hfr hlo hret H ls hP hS hl
  have hB : ∀ q, zAd A q → zAd A q := fun _ h => h
  have hl : lv_has ls 2 [(0, .ref (A 2)), (1, .int (nI k))] := hl
  have S : CallFix p m c cX2_takeSecondDigit 2 s args wsL_law RX2 := S
  have hd6 := hBd.1
  have hcn := hBd.2.1
  have hsl := hBd.2.2.1
  have hbe := hBd.2.2.2.2.2 (T9 0 1)
  have hli := hBd.2.2.2.2.1
  refine lv_iload_n hxx hbb dX2_takeSecondDigit_0 rfl (lv_at hl 1 rfl) ?_
  refine ZI.callSN S hK hP hS hB (kX5_isDigit l G A Y k (by omega)) (znX2_98) zwX2_98 zdX5_isDigit rfl ⟨Nat.le_trans (by decide) hfr, Nat.le_trans (by decide) hlo⟩ rfl (Nat.le_of_ble_eq_true rfl) hl.1 dX2_takeSecondDigit_1 ⟨Nat.zero_le _, Nat.zero_le _⟩ (fun r_1 Y_2 H locs hq_3 hP hS => ?_)
  rcases hq_3 with ⟨hb_4, hr9, hY9⟩ | ⟨hb_4, hr9, hY9⟩
  · skip
    subst hr9; rw [hY9] at hP
    refine zif_ne (tgt := 9) S (by omega) dX2_takeSecondDigit_4 (by decide) (fun c_5 => ?_) (fun c_5 => ?_)
    · skip
      refine lv_aload_n hxx hbb dX2_takeSecondDigit_9 rfl (lv_at hl 0 rfl) ?_
      refine zgX2_12 S hK hP 2 (by decide) zk_2 dX2_takeSecondDigit_10 ?_
      refine lv_aload_n hxx hbb dX2_takeSecondDigit_13 rfl (lv_at hl 0 rfl) ?_
      refine zgX2_25 S hK hP 2 (by decide) zk_2 dX2_takeSecondDigit_14 ?_
      refine lv_aload_n hxx hbb dX2_takeSecondDigit_17 rfl (lv_at hl 0 rfl) ?_
      refine zgX2_22 S hK hP 2 (by decide) zk_2 (v := nI (T9 0 1)) (hR.1.2.1) dX2_takeSecondDigit_18 ?_
      refine zaldN S hK hP 8 7 (by decide) zk_8 zl_8 (by omega) (v := nI (T9 4 (T9 0 1) - 1)) ((hR.2.1 (T9 0 1) hd6).1.trans (oI_pos (by omega))) dX2_takeSecondDigit_21 ?_
      refine lv_aload_n hxx hbb dX2_takeSecondDigit_22 rfl (lv_at hl 0 rfl) ?_
      refine zgX2_42 S hK hP 2 (by decide) zk_2 (v := nI (T9 0 5)) (hR.1.2.2.2.2) dX2_takeSecondDigit_23 ?_
      refine lv_bipush (v := nI 10) hxx hbb dX2_takeSecondDigit_26 (by decide) ?_
      refine zmulN S dX2_takeSecondDigit_28 ?_
      refine lv_iload_n hxx hbb dX2_takeSecondDigit_29 rfl (lv_at hl 1 rfl) ?_
      refine lv_bipush (v := nI 48) hxx hbb dX2_takeSecondDigit_30 (by decide) ?_
      refine zsubN S (by omega) dX2_takeSecondDigit_32 ?_
      refine zaddN S dX2_takeSecondDigit_33 ?_
      refine ZV.callVN S hK hP hS hB (kX4_changeValue l G A Y 3 (T9 4 (T9 0 1) - 1) (nI ((T9 0 5) * 10 + (k - 48))) zPP_3 (by omega)) (znX2_105) zwX2_105 zdX4_changeValue rfl ⟨Nat.le_trans (by decide) hfr, Nat.le_trans (by decide) hlo⟩ (by decide) (zcK2 zk_3) rfl rfl (Nat.le_of_ble_eq_true rfl) hl.1 dX2_takeSecondDigit_34 ⟨Nat.zero_le _, Nat.zero_le _⟩ (fun Y_7 H locs hq_8 hP hS => ?_)
      have hR1 : RD Y_7 (nU T9 3 (T9 4 (T9 0 1) - 1) (T9 0 5 * 10 + (k - 48))) := hq_8.elim (fun g => by rw [g.2]; exact hR.va h6) (fun g => by rw [g.2]; exact hR.vo g.1)
      have hKr1 : KR Y Y_7 := hq_8.elim (fun g => by rw [g.2]; exact KR.rf.u (by omega)) (fun g => by rw [g.2]; exact KR.rf)
      refine lv_aload_n hxx hbb dX2_takeSecondDigit_37 rfl (lv_at hl 0 rfl) ?_
      refine lv_iconst (v := nI 1) hxx hbb dX2_takeSecondDigit_38 (by decide) ?_
      refine zpX2_18 S hK hP hS hB 2 (by decide) zk_2 dX2_takeSecondDigit_39 (fun H locs hP hS => ?_)
      refine lv_iconst (v := nI 1) hxx hbb dX2_takeSecondDigit_42 (by decide) ?_
      exact hret _ _ _ _ _ _ dX2_takeSecondDigit_43 (by first | rfl | decide) hP hS (Or.inl ⟨by omega, rfl, hR1.st rfl, hKr1.u (by omega)⟩)
    · skip
      exact absurd c_5 (by decide)
  · skip
    subst hr9; rw [hY9] at hP
    refine zif_ne (tgt := 9) S (by omega) dX2_takeSecondDigit_4 (by decide) (fun c_9 => ?_) (fun c_9 => ?_)
    · skip
      exact absurd c_9 (by decide)
    · skip
      refine lv_iconst (v := nI 0) hxx hbb dX2_takeSecondDigit_7 (by decide) ?_
      exact hret _ _ _ _ _ _ dX2_takeSecondDigit_8 (by first | rfl | decide) hP hS (Or.inr ⟨by omega, rfl, rfl⟩)

set_option maxHeartbeats 4000000 in
set_option maxRecDepth 100000 in
theorem kX2_takeSuffix (l : Launch) (G : zG) (A : Nat → Nat) (Y : zY) (k : Nat) (T9 : nY) (nb : Nat) (hR : RD Y T9) (hBd : RB nb T9) (hnb : nb ≤ 190) (hc : k < 65536) (hlv : 1 ≤ T9 4 (T9 0 1)) : ZI l yX2_takeSuffix cX2_takeSuffix 2 (.boolean) 2 47 G A Y [.ref (A 2), .int (nI k)] (fun r Y' => ((k = 42 ∨ k = 43 ∨ k = 63 ∨ k = 60) ∧ r = nI 1 ∧ RD Y' ((if k = 42 then sSuf T9 3 0 else if k = 43 then sSuf T9 4 0 else if k = 63 then sSuf T9 5 0 else nU T9 0 0 5)) ∧ KR Y Y') ∨ (¬ (k = 42 ∨ k = 43 ∨ k = 63 ∨ k = 60) ∧ r = nI 0 ∧ Y' = Y)) := by
  refine ZI.enter (by decide) (Nat.le_of_ble_eq_true rfl) ?_
  intro p e s m args below meth c R Q hxx hbb S hK hfr hlo hret H ls hP hS hl
  have hB : ∀ q, zAd A q → zAd A q := fun _ h => h
  have hl : lv_has ls 2 [(0, .ref (A 2)), (1, .int (nI k))] := hl
  have S : CallFix p m c cX2_takeSuffix 2 s args wsL_law RX2 := S
  have hd6 := hBd.1
  have hcn := hBd.2.1
  have hsl := hBd.2.2.1
  have hbe := hBd.2.2.2.2.2 (T9 0 1)
  refine lv_iload_n hxx hbb dX2_takeSuffix_0 rfl (lv_at hl 1 rfl) ?_
  by_cases c_1 : k = 42
  · skip
    refine zlook S (k := 42) (off := 43) (tgt := 44) c_1 dX2_takeSuffix_1 (by decide) (by decide) (by decide) (by decide) ?_
    refine lv_aload_n hxx hbb dX2_takeSuffix_44 rfl (lv_at hl 0 rfl) ?_
    refine lv_iconst (v := nI 4) hxx hbb dX2_takeSuffix_45 (by decide) ?_
    refine lv_iconst (v := nI 0) hxx hbb dX2_takeSuffix_46 (by decide) ?_
    refine ZV.callV S hK hP hS hB (kX2_endSuffix l G A Y 3 0 T9 nb hR hBd hnb hlv (by omega) (fun _ => rfl)) zwX2_101 zdX2_endSuffix rfl ⟨Nat.le_trans (by decide) hfr, Nat.le_trans (by decide) hlo⟩ (by decide) (zcK1 zk_2) rfl rfl (Nat.le_of_ble_eq_true rfl) hl.1 dX2_takeSuffix_47 ⟨Nat.zero_le _, Nat.zero_le _⟩ (fun Y_3 H locs hq_4 hP hS => ?_)
    obtain ⟨hR1, hKr1⟩ := hq_4
    refine lv_iconst (v := nI 1) hxx hbb dX2_takeSuffix_50 (by decide) ?_
    exact hret _ _ _ _ _ _ dX2_takeSuffix_51 (by first | rfl | decide) hP hS (Or.inl ⟨by omega, rfl, by rw [if_pos (by omega)]; exact hR1, hKr1⟩)
  by_cases c_5 : k = 43
  · skip
    refine zlook S (k := 43) (off := 51) (tgt := 52) c_5 dX2_takeSuffix_1 (by decide) (by decide) (by decide) (by decide) ?_
    refine lv_aload_n hxx hbb dX2_takeSuffix_52 rfl (lv_at hl 0 rfl) ?_
    refine lv_iconst (v := nI 5) hxx hbb dX2_takeSuffix_53 (by decide) ?_
    refine lv_iconst (v := nI 0) hxx hbb dX2_takeSuffix_54 (by decide) ?_
    refine ZV.callV S hK hP hS hB (kX2_endSuffix l G A Y 4 0 T9 nb hR hBd hnb hlv (by omega) (fun _ => rfl)) zwX2_101 zdX2_endSuffix rfl ⟨Nat.le_trans (by decide) hfr, Nat.le_trans (by decide) hlo⟩ (by decide) (zcK1 zk_2) rfl rfl (Nat.le_of_ble_eq_true rfl) hl.1 dX2_takeSuffix_55 ⟨Nat.zero_le _, Nat.zero_le _⟩ (fun Y_7 H locs hq_8 hP hS => ?_)
    obtain ⟨hR1, hKr1⟩ := hq_8
    refine lv_iconst (v := nI 1) hxx hbb dX2_takeSuffix_58 (by decide) ?_
    exact hret _ _ _ _ _ _ dX2_takeSuffix_59 (by first | rfl | decide) hP hS (Or.inl ⟨by omega, rfl, by rw [if_neg (by omega), if_pos (by omega)]; exact hR1, hKr1⟩)
  by_cases c_9 : k = 60
  · skip
    refine zlook S (k := 60) (off := 67) (tgt := 68) c_9 dX2_takeSuffix_1 (by decide) (by decide) (by decide) (by decide) ?_
    refine lv_aload_n hxx hbb dX2_takeSuffix_68 rfl (lv_at hl 0 rfl) ?_
    refine lv_iconst (v := nI 2) hxx hbb dX2_takeSuffix_69 (by decide) ?_
    refine zpX2_18 S hK hP hS hB 2 (by decide) zk_2 dX2_takeSuffix_70 (fun H locs hP hS => ?_)
    refine lv_iconst (v := nI 1) hxx hbb dX2_takeSuffix_73 (by decide) ?_
    exact hret _ _ _ _ _ _ dX2_takeSuffix_74 (by first | rfl | decide) hP hS (Or.inl ⟨by omega, rfl, by rw [if_neg (by omega), if_neg (by omega), if_neg (by omega)]; exact hR.st rfl, KR.rf.u (by omega)⟩)
  by_cases c_10 : k = 63
  · skip
    refine zlook S (k := 63) (off := 59) (tgt := 60) c_10 dX2_takeSuffix_1 (by decide) (by decide) (by decide) (by decide) ?_
    refine lv_aload_n hxx hbb dX2_takeSuffix_60 rfl (lv_at hl 0 rfl) ?_
    refine lv_iconst (v := nI 3) hxx hbb dX2_takeSuffix_61 (by decide) ?_
    refine lv_iconst (v := nI 0) hxx hbb dX2_takeSuffix_62 (by decide) ?_
    refine ZV.callV S hK hP hS hB (kX2_endSuffix l G A Y 5 0 T9 nb hR hBd hnb hlv (by omega) (fun _ => rfl)) zwX2_101 zdX2_endSuffix rfl ⟨Nat.le_trans (by decide) hfr, Nat.le_trans (by decide) hlo⟩ (by decide) (zcK1 zk_2) rfl rfl (Nat.le_of_ble_eq_true rfl) hl.1 dX2_takeSuffix_63 ⟨Nat.zero_le _, Nat.zero_le _⟩ (fun Y_12 H locs hq_13 hP hS => ?_)
    obtain ⟨hR1, hKr1⟩ := hq_13
    refine lv_iconst (v := nI 1) hxx hbb dX2_takeSuffix_66 (by decide) ?_
    exact hret _ _ _ _ _ _ dX2_takeSuffix_67 (by first | rfl | decide) hP hS (Or.inl ⟨by omega, rfl, by rw [if_neg (by omega), if_neg (by omega), if_pos (by omega)]; exact hR1, hKr1⟩)
  refine lv_lookup (off := 74) (tgt := 75) hxx hbb dX2_takeSuffix_1 (by decide) (by have hb9 : (nI k).toInt = ((k : Nat) : Int) := nI_toInt (by omega); simp only [Op.lookupswitch.offset, hb9]; (repeat (rw [if_neg (by omega)]))) (by decide) ?_
  refine lv_iconst (v := nI 0) hxx hbb dX2_takeSuffix_75 (by decide) ?_
  exact hret _ _ _ _ _ _ dX2_takeSuffix_76 (by first | rfl | decide) hP hS (Or.inr ⟨by omega, rfl, rfl⟩)

set_option maxHeartbeats 4000000 in
set_option maxRecDepth 100000 in
theorem kX2_takeClosing (l : Launch) (G : zG) (A : Nat → Nat) (Y : zY) (T9 : nY) (nb : Nat) (hR : RD Y T9) (hBd : RB nb T9) (hnb : nb ≤ 190) (hlv : 1 ≤ T9 5 (T9 0 1)) : ZI l yX2_takeClosing cX2_takeClosing 2 (.boolean) 2 47 G A Y [.ref (A 2)] (fun r Y' => ((0 < T9 0 1) ∧ r = nI 1 ∧ RD Y' (sClose T9) ∧ KR Y Y') ∨ (¬ (0 < T9 0 1) ∧ r = nI 0 ∧ Y' = Y)) := by
  refine ZI.enter (by decide) (Nat.le_of_ble_eq_true rfl) ?_
  intro p e s m args below meth c R Q hxx hbb S hK hfr hlo hret H ls hP hS hl
  have hB : ∀ q, zAd A q → zAd A q := fun _ h => h
  have hl : lv_has ls 2 [(0, .ref (A 2))] := hl
  have S : CallFix p m c cX2_takeClosing 2 s args wsL_law RX2 := S
  have hd6 := hBd.1
  have hcn := hBd.2.1
  have hsl := hBd.2.2.1
  have hbe := hBd.2.2.2.2.2 (T9 0 1)
  refine lv_aload_n hxx hbb dX2_takeClosing_0 rfl (lv_at hl 0 rfl) ?_
  refine zgX2_22 S hK hP 2 (by decide) zk_2 (v := nI (T9 0 1)) (hR.1.2.1) dX2_takeClosing_1 ?_
  refine zif_ne (tgt := 9) S (by omega) dX2_takeClosing_4 (by decide) (fun c_1 => ?_) (fun c_1 => ?_)
  · skip
    refine lv_aload_n hxx hbb dX2_takeClosing_9 rfl (lv_at hl 0 rfl) ?_
    refine ZV.callV S hK hP hS hB (kX2_endRow l G A Y T9 nb hR hBd hnb hlv) zwX2_58 zdX2_endRow rfl ⟨Nat.le_trans (by decide) hfr, Nat.le_trans (by decide) hlo⟩ (by decide) (zcK1 zk_2) rfl rfl (Nat.le_of_ble_eq_true rfl) hl.1 dX2_takeClosing_10 ⟨Nat.zero_le _, Nat.zero_le _⟩ (fun Y_3 H locs hq_4 hP hS => ?_)
    obtain ⟨hR1, hKr1⟩ := hq_4
    refine lv_aload_n hxx hbb dX2_takeClosing_13 rfl (lv_at hl 0 rfl) ?_
    refine zgX2_32 S hK hP 2 (by decide) zk_2 dX2_takeClosing_14 ?_
    refine lv_aload_n hxx hbb dX2_takeClosing_17 rfl (lv_at hl 0 rfl) ?_
    refine zgX2_22 S hK hP 2 (by decide) zk_2 (v := nI (T9 0 1)) (hR1.1.2.1.trans (by rw [sRow_d (by decide)])) dX2_takeClosing_18 ?_
    refine zaldN S hK hP 10 7 (by decide) zk_10 zl_10 (by omega) (v := oI (sRow T9 6 (T9 0 1))) ((hR1.2.1 (T9 0 1) hd6).2.2) dX2_takeClosing_21 ?_
    refine lv_istore_n (lv' := [(1, .int (oI (sRow T9 6 (T9 0 1)))), (0, .ref (A 2))]) hxx hbb dX2_takeClosing_22 rfl hl (by decide) rfl (fun ls hl => ?_)
    refine lv_aload_n hxx hbb dX2_takeClosing_23 rfl (lv_at hl 1 rfl) ?_
    refine lv_dup hxx hbb dX2_takeClosing_24 rfl ?_
    refine zgX2_22 S hK hP 2 (by decide) zk_2 (v := nI (T9 0 1)) (hR1.1.2.1.trans (by rw [sRow_d (by decide)])) dX2_takeClosing_25 ?_
    refine lv_iconst (v := nI 1) hxx hbb dX2_takeClosing_28 (by decide) ?_
    refine zsubN S (by omega) dX2_takeClosing_29 ?_
    refine zpX2_22 S hK hP hS hB 2 (by decide) zk_2 dX2_takeClosing_30 (fun H locs hP hS => ?_)
    refine lv_aload_n hxx hbb dX2_takeClosing_33 rfl (lv_at hl 1 rfl) ?_
    refine zgX2_25 S hK hP 2 (by decide) zk_2 dX2_takeClosing_34 ?_
    refine lv_aload_n hxx hbb dX2_takeClosing_37 rfl (lv_at hl 1 rfl) ?_
    refine zgX2_22 S hK hP 2 (by decide) zk_2 (v := nI (T9 0 1 - 1)) (zU_eq) dX2_takeClosing_38 ?_
    refine lv_iload_n hxx hbb dX2_takeClosing_41 rfl (lv_at hl 0 rfl) ?_
    refine zastN S hK hP hS hB 8 7 (by decide) zk_8 zl_8 (by omega) dX2_takeClosing_42 (fun H locs hP hS => ?_)
    refine lv_aload_n hxx hbb dX2_takeClosing_43 rfl (lv_at hl 1 rfl) ?_
    refine lv_iconst (v := nI 1) hxx hbb dX2_takeClosing_44 (by decide) ?_
    refine zpX2_18 S hK hP hS hB 2 (by decide) zk_2 dX2_takeClosing_45 (fun H locs hP hS => ?_)
    refine lv_iconst (v := nI 1) hxx hbb dX2_takeClosing_48 (by decide) ?_
    exact hret _ _ _ _ _ _ dX2_takeClosing_49 (by first | rfl | decide) hP hS (Or.inl ⟨by omega, rfl, by unfold sClose sClo; rw [sRow_d (by decide)]; exact (hR1.dp.it rfl).st rfl, ((hKr1.u (by omega)).u (by omega)).u (by omega)⟩)
  · skip
    refine lv_iconst (v := nI 0) hxx hbb dX2_takeClosing_7 (by decide) ?_
    exact hret _ _ _ _ _ _ dX2_takeClosing_8 (by first | rfl | decide) hP hS (Or.inr ⟨by omega, rfl, rfl⟩)

set_option maxHeartbeats 4000000 in
set_option maxRecDepth 100000 in
theorem kX2_takeAtom (l : Launch) (G : zG) (A : Nat → Nat) (Y : zY) (k : Nat) (T9 : nY) (nb : Nat) (hR : RD Y T9) (hBd : RB nb T9) (hnb : nb ≤ 190) (hc : k < 65536) : ZI l yX2_takeAtom cX2_takeAtom 2 (.boolean) 2 46 G A Y [.ref (A 2), .int (nI k)] (fun r Y' => ((atP k (T9 0 1)) ∧ r = nI 1 ∧ RD Y' (sAt T9 k) ∧ KR Y Y') ∨ (¬ (atP k (T9 0 1)) ∧ r = nI 0 ∧ Y' = Y)) := by
  refine ZI.enter (by decide) (Nat.le_of_ble_eq_true rfl) ?_
  intro p e s m args below meth c R Q hxx hbb S hK hfr hlo hret H ls hP hS hl
  have hB : ∀ q, zAd A q → zAd A q := fun _ h => h
  have hl : lv_has ls 2 [(0, .ref (A 2)), (1, .int (nI k))] := hl
  have S : CallFix p m c cX2_takeAtom 2 s args wsL_law RX2 := S
  have hd6 := hBd.1
  have hcn := hBd.2.1
  have hsl := hBd.2.2.1
  have hbe := hBd.2.2.2.2.2 (T9 0 1)
  refine lv_iload_n hxx hbb dX2_takeAtom_0 rfl (lv_at hl 1 rfl) ?_
  refine ZI.callSN S hK hP hS hB (kX5_isLetter l G A Y k (by omega)) (znX2_82) zwX2_82 zdX5_isLetter rfl ⟨Nat.le_trans (by decide) hfr, Nat.le_trans (by decide) hlo⟩ rfl (Nat.le_of_ble_eq_true rfl) hl.1 dX2_takeAtom_1 ⟨Nat.zero_le _, Nat.zero_le _⟩ (fun r_1 Y_2 H locs hq_3 hP hS => ?_)
  rcases hq_3 with ⟨hb_4, hr9, hY9⟩ | ⟨hb_4, hr9, hY9⟩
  · skip
    subst hr9; rw [hY9] at hP
    refine zif_eq (tgt := 17) S (by omega) dX2_takeAtom_4 (by decide) (fun c_5 => ?_) (fun c_5 => ?_)
    · skip
      exact absurd c_5 (by decide)
    · skip
      refine lv_aload_n hxx hbb dX2_takeAtom_7 rfl (lv_at hl 0 rfl) ?_
      refine lv_iload_n hxx hbb dX2_takeAtom_8 rfl (lv_at hl 1 rfl) ?_
      refine ZI.callS S hK hP hS hB (kX2_bitOf l G A Y k (by omega)) zwX2_85 zdX2_bitOf rfl ⟨Nat.le_trans (by decide) hfr, Nat.le_trans (by decide) hlo⟩ rfl (Nat.le_of_ble_eq_true rfl) hl.1 dX2_takeAtom_9 ⟨Nat.zero_le _, Nat.zero_le _⟩ (fun r_6 Y_7 H locs hq_8 hP hS => ?_)
      obtain ⟨hr9, hY9⟩ := hq_8
      subst hr9; rw [hY9] at hP
      refine ZV.callV S hK hP hS hB (kX2_endAtom l G A Y (2 ^ (k - 97)) T9 nb hR hBd hnb) zwX2_89 zdX2_endAtom rfl ⟨Nat.le_trans (by decide) hfr, Nat.le_trans (by decide) hlo⟩ (by decide) (zcK1 zk_2) rfl rfl (Nat.le_of_ble_eq_true rfl) hl.1 dX2_takeAtom_12 ⟨Nat.zero_le _, Nat.zero_le _⟩ (fun Y_10 H locs hq_11 hP hS => ?_)
      obtain ⟨hR1, hKr1⟩ := hq_11
      refine lv_iconst (v := nI 1) hxx hbb dX2_takeAtom_15 (by decide) ?_
      exact hret _ _ _ _ _ _ dX2_takeAtom_16 (by first | rfl | decide) hP hS (Or.inl ⟨by unfold atP; omega, rfl, by unfold sAt; rw [if_pos hb_4]; exact hR1, hKr1⟩)
  · skip
    subst hr9; rw [hY9] at hP
    refine zif_eq (tgt := 17) S (by omega) dX2_takeAtom_4 (by decide) (fun c_12 => ?_) (fun c_12 => ?_)
    · skip
      refine lv_iload_n hxx hbb dX2_takeAtom_17 rfl (lv_at hl 1 rfl) ?_
      by_cases c_13 : k = 40
      · skip
        refine zlook S (k := 40) (off := 59) (tgt := 77) c_13 dX2_takeAtom_18 (by decide) (by decide) (by decide) (by decide) ?_
        refine lv_aload_n hxx hbb dX2_takeAtom_77 rfl (lv_at hl 0 rfl) ?_
        refine ZI.callV S hK hP hS hB (kX2_takeOpening l G A Y T9 nb hR hBd hnb) zwX2_94 zdX2_takeOpening rfl ⟨Nat.le_trans (by decide) hfr, Nat.le_trans (by decide) hlo⟩ (by decide) (zcK1 zk_2) rfl rfl (Nat.le_of_ble_eq_true rfl) hl.1 dX2_takeAtom_78 ⟨Nat.zero_le _, Nat.zero_le _⟩ (fun r_14 Y_15 H locs hq_16 hP hS => ?_)
        rcases hq_16 with ⟨hb_17, hr9, hR9, hK9⟩ | ⟨hb_17, hr9, hY9⟩
        · skip
          subst hr9
          exact hret _ _ _ _ _ _ dX2_takeAtom_81 (by first | rfl | decide) hP hS (Or.inl ⟨by unfold atP; omega, rfl, by unfold sAt; rw [if_neg (by omega), if_neg (by omega), if_neg (by omega)]; exact hR9, hK9⟩)
        · skip
          subst hr9
          rw [hY9] at hP
          exact hret _ _ _ _ _ _ dX2_takeAtom_81 (by first | rfl | decide) hP hS (Or.inr ⟨by unfold atP; omega, rfl, rfl⟩)
      by_cases c_18 : k = 46
      · skip
        refine zlook S (k := 46) (off := 34) (tgt := 52) c_18 dX2_takeAtom_18 (by decide) (by decide) (by decide) (by decide) ?_
        refine lv_aload_n hxx hbb dX2_takeAtom_52 rfl (lv_at hl 0 rfl) ?_
        refine zldc S (v := 67108863) zxX2_93 dX2_takeAtom_53 ?_
        rw [show (67108863 : Int32) = nI 67108863 from rfl]
        refine ZV.callV S hK hP hS hB (kX2_endAtom l G A Y 67108863 T9 nb hR hBd hnb) zwX2_89 zdX2_endAtom rfl ⟨Nat.le_trans (by decide) hfr, Nat.le_trans (by decide) hlo⟩ (by decide) (zcK1 zk_2) rfl rfl (Nat.le_of_ble_eq_true rfl) hl.1 dX2_takeAtom_55 ⟨Nat.zero_le _, Nat.zero_le _⟩ (fun Y_20 H locs hq_21 hP hS => ?_)
        obtain ⟨hR1, hKr1⟩ := hq_21
        refine lv_iconst (v := nI 1) hxx hbb dX2_takeAtom_58 (by decide) ?_
        exact hret _ _ _ _ _ _ dX2_takeAtom_59 (by first | rfl | decide) hP hS (Or.inl ⟨by unfold atP; omega, rfl, by unfold sAt; rw [if_neg (by omega), if_pos (by omega)]; exact hR1, hKr1⟩)
      by_cases c_22 : k = 91
      · skip
        refine zlook S (k := 91) (off := 42) (tgt := 60) c_22 dX2_takeAtom_18 (by decide) (by decide) (by decide) (by decide) ?_
        refine lv_aload_n hxx hbb dX2_takeAtom_60 rfl (lv_at hl 0 rfl) ?_
        refine lv_iconst (v := nI 0) hxx hbb dX2_takeAtom_61 (by decide) ?_
        refine zpX2_35 S hK hP hS hB 2 (by decide) zk_2 dX2_takeAtom_62 (fun H locs hP hS => ?_)
        refine lv_aload_n hxx hbb dX2_takeAtom_65 rfl (lv_at hl 0 rfl) ?_
        refine lv_iconst (v := nI 0) hxx hbb dX2_takeAtom_66 (by decide) ?_
        refine zpX2_38 S hK hP hS hB 2 (by decide) zk_2 (by first | exact ⟨rfl, rfl⟩ | decide) dX2_takeAtom_67 (fun H locs hP hS => ?_)
        refine lv_aload_n hxx hbb dX2_takeAtom_70 rfl (lv_at hl 0 rfl) ?_
        refine lv_iconst (v := nI 4) hxx hbb dX2_takeAtom_71 (by decide) ?_
        refine zpX2_18 S hK hP hS hB 2 (by decide) zk_2 dX2_takeAtom_72 (fun H locs hP hS => ?_)
        refine lv_iconst (v := nI 1) hxx hbb dX2_takeAtom_75 (by decide) ?_
        exact hret _ _ _ _ _ _ dX2_takeAtom_76 (by first | rfl | decide) hP hS (Or.inl ⟨by unfold atP; omega, rfl, by unfold sAt; rw [if_neg (by omega), if_neg (by omega), if_pos (by omega)]; exact ((hR.sl rfl).so).st rfl, ((KR.rf.u (by omega)).u (by omega)).u (by omega)⟩)
      refine lv_lookup (off := 64) (tgt := 82) hxx hbb dX2_takeAtom_18 (by decide) (by have hb9 : (nI k).toInt = ((k : Nat) : Int) := nI_toInt (by omega); simp only [Op.lookupswitch.offset, hb9]; (repeat (rw [if_neg (by omega)]))) (by decide) ?_
      refine lv_iconst (v := nI 0) hxx hbb dX2_takeAtom_82 (by decide) ?_
      exact hret _ _ _ _ _ _ dX2_takeAtom_83 (by first | rfl | decide) hP hS (Or.inr ⟨by unfold atP; omega, rfl, rfl⟩)
    · skip
      exact absurd c_12 (by decide)

set_option maxHeartbeats 4000000 in
set_option maxRecDepth 100000 in
theorem kX2_takeAfterItem (l : Launch) (G : zG) (A : Nat → Nat) (Y : zY) (k : Nat) (T9 : nY) (nb : Nat) (hR : RD Y T9) (hBd : RB nb T9) (hnb : nb ≤ 180) (hc : k < 65536) (hlv : 1 ≤ T9 4 (T9 0 1)) : ZI l yX2_takeAfterItem cX2_takeAfterItem 2 (.boolean) 3 68 G A Y [.ref (A 2), .int (nI k)] (fun r Y' => ((k = 42 ∨ k = 43 ∨ k = 63 ∨ k = 60 ∨ k = 124 ∨ (k = 41 ∧ 0 < T9 0 1) ∨ atP k (T9 0 1)) ∧ r = nI 1 ∧ RD Y' (sSufx T9 k) ∧ KR Y Y') ∨ (¬ (k = 42 ∨ k = 43 ∨ k = 63 ∨ k = 60 ∨ k = 124 ∨ (k = 41 ∧ 0 < T9 0 1) ∨ atP k (T9 0 1)) ∧ r = nI 0 ∧ RD Y' (sItem T9) ∧ KR Y Y')) := by
  refine ZI.enter (by decide) (Nat.le_of_ble_eq_true rfl) ?_
  intro p e s m args below meth c R Q hxx hbb S hK hfr hlo hret H ls hP hS hl
  have hB : ∀ q, zAd A q → zAd A q := fun _ h => h
  have hl : lv_has ls 2 [(0, .ref (A 2)), (1, .int (nI k))] := hl
  have S : CallFix p m c cX2_takeAfterItem 2 s args wsL_law RX2 := S
  have hnb : nb ≤ 190 := by omega
  have hd6 := hBd.1
  have hcn := hBd.2.1
  have hsl := hBd.2.2.1
  have hbe := hBd.2.2.2.2.2 (T9 0 1)
  refine lv_aload_n hxx hbb dX2_takeAfterItem_0 rfl (lv_at hl 0 rfl) ?_
  refine lv_iload_n hxx hbb dX2_takeAfterItem_1 rfl (lv_at hl 1 rfl) ?_
  refine ZI.callV S hK hP hS hB (kX2_takeSuffix l G A Y k T9 nb hR hBd hnb hc hlv) zwX2_108 zdX2_takeSuffix rfl ⟨Nat.le_trans (by decide) hfr, Nat.le_trans (by decide) hlo⟩ (by decide) (zcK1 zk_2) rfl rfl (Nat.le_of_ble_eq_true rfl) hl.1 dX2_takeAfterItem_2 ⟨Nat.zero_le _, Nat.zero_le _⟩ (fun r_1 Y_2 H locs hq_3 hP hS => ?_)
  rcases hq_3 with ⟨hb_4, hr9, hR9, hK9⟩ | ⟨hb_4, hr9, hY9⟩
  · skip
    subst hr9
    refine zif_eq (tgt := 10) S (by omega) dX2_takeAfterItem_5 (by decide) (fun c_5 => ?_) (fun c_5 => ?_)
    · skip
      exact absurd c_5 (by decide)
    · skip
      refine lv_iconst (v := nI 1) hxx hbb dX2_takeAfterItem_8 (by decide) ?_
      exact hret _ _ _ _ _ _ dX2_takeAfterItem_9 (by first | rfl | decide) hP hS (Or.inl ⟨by have := hb_4; omega, rfl, by unfold sSufx; rcases hb_4 with h | h | h | h <;> subst h <;> exact hR9, hK9⟩)
  · skip
    subst hr9
    rw [hY9] at hP
    refine zif_eq (tgt := 10) S (by omega) dX2_takeAfterItem_5 (by decide) (fun c_6 => ?_) (fun c_6 => ?_)
    · skip
      refine lv_aload_n hxx hbb dX2_takeAfterItem_10 rfl (lv_at hl 0 rfl) ?_
      refine ZV.callV S hK hP hS hB (kX2_endItem l G A Y T9 nb hR hBd hnb hlv) zwX2_55 zdX2_endItem rfl ⟨Nat.le_trans (by decide) hfr, Nat.le_trans (by decide) hlo⟩ (by decide) (zcK1 zk_2) rfl rfl (Nat.le_of_ble_eq_true rfl) hl.1 dX2_takeAfterItem_11 ⟨Nat.zero_le _, Nat.zero_le _⟩ (fun Y_8 H locs hq_9 hP hS => ?_)
      obtain ⟨hR1, hKr1⟩ := hq_9
      have hR2 := hR1; have hK2 := hKr1
      have h5 := sItem_5 hlv
      refine lv_iload_n hxx hbb dX2_takeAfterItem_14 rfl (lv_at hl 1 rfl) ?_
      by_cases c_10 : k = 41
      · skip
        refine zlook S (k := 41) (off := 36) (tgt := 51) c_10 dX2_takeAfterItem_15 (by decide) (by decide) (by decide) (by decide) ?_
        refine lv_aload_n hxx hbb dX2_takeAfterItem_51 rfl (lv_at hl 0 rfl) ?_
        refine ZI.callV S hK hP hS hB (kX2_takeClosing l G A Y_8 (sItem T9) (nb + 1) hR2 (hBd.item (by omega)) (by omega) (by rw [sItem_d (by decide)]; exact h5)) zwX2_111 zdX2_takeClosing rfl ⟨Nat.le_trans (by decide) hfr, Nat.le_trans (by decide) hlo⟩ (by decide) (zcK1 zk_2) rfl rfl (Nat.le_of_ble_eq_true rfl) hl.1 dX2_takeAfterItem_52 ⟨Nat.zero_le _, Nat.zero_le _⟩ (fun r_11 Y_12 H locs hq_13 hP hS => ?_)
        rcases hq_13 with ⟨hb_14, hr9, hR9, hK9⟩ | ⟨hb_14, hr9, hY9⟩
        · skip
          subst hr9
          exact hret _ _ _ _ _ _ dX2_takeAfterItem_55 (by first | rfl | decide) hP hS (Or.inl ⟨by have h9 := hb_14; rw [sItem_d (by decide)] at h9; omega, rfl, by unfold sSufx; rw [if_neg (by omega), if_neg (by omega), if_neg (by omega), if_neg (by omega)]; unfold sAft; rw [if_neg (by omega), if_pos (by omega)]; exact hR9, hK2.trans hK9⟩)
        · skip
          subst hr9
          rw [hY9] at hP
          exact hret _ _ _ _ _ _ dX2_takeAfterItem_55 (by first | rfl | decide) hP hS (Or.inr ⟨fun z => by have h9 := hb_14; rw [sItem_d (by decide)] at h9; unfold atP at z; omega, rfl, hR2, hK2⟩)
      by_cases c_15 : k = 124
      · skip
        refine zlook S (k := 124) (off := 25) (tgt := 40) c_15 dX2_takeAfterItem_15 (by decide) (by decide) (by decide) (by decide) ?_
        refine lv_aload_n hxx hbb dX2_takeAfterItem_40 rfl (lv_at hl 0 rfl) ?_
        refine ZV.callV S hK hP hS hB (kX2_endRow l G A Y_8 (sItem T9) (nb + 1) hR2 (hBd.item (by omega)) (by omega) (by rw [sItem_d (by decide)]; exact h5)) zwX2_58 zdX2_endRow rfl ⟨Nat.le_trans (by decide) hfr, Nat.le_trans (by decide) hlo⟩ (by decide) (zcK1 zk_2) rfl rfl (Nat.le_of_ble_eq_true rfl) hl.1 dX2_takeAfterItem_41 ⟨Nat.zero_le _, Nat.zero_le _⟩ (fun Y_17 H locs hq_18 hP hS => ?_)
        obtain ⟨hR1, hKr1⟩ := hq_18
        refine lv_aload_n hxx hbb dX2_takeAfterItem_44 rfl (lv_at hl 0 rfl) ?_
        refine lv_iconst (v := nI 0) hxx hbb dX2_takeAfterItem_45 (by decide) ?_
        refine zpX2_18 S hK hP hS hB 2 (by decide) zk_2 dX2_takeAfterItem_46 (fun H locs hP hS => ?_)
        refine lv_iconst (v := nI 1) hxx hbb dX2_takeAfterItem_49 (by decide) ?_
        exact hret _ _ _ _ _ _ dX2_takeAfterItem_50 (by first | rfl | decide) hP hS (Or.inl ⟨by omega, rfl, by unfold sSufx; rw [if_neg (by omega), if_neg (by omega), if_neg (by omega), if_neg (by omega)]; unfold sAft; rw [if_pos (by omega)]; exact hR1.st rfl, (hK2.trans hKr1).u (by omega)⟩)
      refine lv_lookup (off := 41) (tgt := 56) hxx hbb dX2_takeAfterItem_15 (by decide) (by have hb9 : (nI k).toInt = ((k : Nat) : Int) := nI_toInt (by omega); simp only [Op.lookupswitch.offset, hb9]; (repeat (rw [if_neg (by omega)]))) (by decide) ?_
      refine lv_aload_n hxx hbb dX2_takeAfterItem_56 rfl (lv_at hl 0 rfl) ?_
      refine lv_iload_n hxx hbb dX2_takeAfterItem_57 rfl (lv_at hl 1 rfl) ?_
      refine ZI.callV S hK hP hS hB (kX2_takeAtom l G A Y_8 k (sItem T9) (nb + 1) hR2 (hBd.item (by omega)) (by omega) hc) zwX2_61 zdX2_takeAtom rfl ⟨Nat.le_trans (by decide) hfr, Nat.le_trans (by decide) hlo⟩ (by decide) (zcK1 zk_2) rfl rfl (Nat.le_of_ble_eq_true rfl) hl.1 dX2_takeAfterItem_58 ⟨Nat.zero_le _, Nat.zero_le _⟩ (fun r_19 Y_20 H locs hq_21 hP hS => ?_)
      rcases hq_21 with ⟨hb_22, hr9, hR9, hK9⟩ | ⟨hb_22, hr9, hY9⟩
      · skip
        subst hr9
        exact hret _ _ _ _ _ _ dX2_takeAfterItem_61 (by first | rfl | decide) hP hS (Or.inl ⟨by have h9 := hb_22; rw [sItem_d (by decide)] at h9; exact Or.inr (Or.inr (Or.inr (Or.inr (Or.inr (Or.inr h9))))), rfl, by unfold sSufx; rw [if_neg (by omega), if_neg (by omega), if_neg (by omega), if_neg (by omega)]; unfold sAft; rw [if_neg (by omega), if_neg (by omega)]; exact hR9, hK2.trans hK9⟩)
      · skip
        subst hr9
        rw [hY9] at hP
        exact hret _ _ _ _ _ _ dX2_takeAfterItem_61 (by first | rfl | decide) hP hS (Or.inr ⟨fun z => hb_22 (by rw [sItem_d (by decide)]; rcases z with z | z | z | z | z | z | z <;> first | exact z | (exfalso; omega)), rfl, hR2, hK2⟩)
    · skip
      exact absurd c_6 (by decide)
