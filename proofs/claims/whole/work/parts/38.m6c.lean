theorem run_go {S0 T : nY} {ch : Nat → Nat} {n k : Nat} (hn : sRun S0 ch n ≠ none) (hk : k < n) (hT : sRun S0 ch k = some T) : nx (T 0 0) (ch k) (T 0 1) ≠ none ∧ sRun S0 ch (k + 1) = some (sAct T (ch k)) := by
  have h : nx (T 0 0) (ch k) (T 0 1) ≠ none := fun z => by
    have h2 : sTake T (ch k) = none := by unfold sTake; rw [if_pos z]
    exact hn (sRun_no hT h2 hk)
  exact ⟨h, sRun_s hT h⟩
theorem run_lt {S0 T U : nY} {ch : Nat → Nat} {n k : Nat} (hU : sRun S0 ch n = some U) (ho : okS U) (hk : k ≤ n) (hT : sRun S0 ch k = some T) (hs : ¬ okS T) : k < n := by
  by_cases g : k = n
  · subst g; rw [hT] at hU; cases hU; exact absurd ho hs
  · omega
theorem nx_set {s c d : Nat} (h : nx s c d ≠ none) (hs : (s = 2 ∧ c ≠ 94) ∨ s = 3 ∨ s = 4) : (97 ≤ c ∧ c ≤ 122) ∨ (s = 4 ∧ c = 93) := by
  rcases hs with ⟨e, g⟩ | e | e
  · subst e; exact Classical.byContradiction (fun z => h (nx_2.mpr (by omega)))
  · subst e; exact Classical.byContradiction (fun z => h (nx_3.mpr (by omega)))
  · subst e; exact Classical.byContradiction (fun z => h (nx_4.mpr (by omega)))
/-- the same but for the reading's own state -/
def ST (T S : nY) : Prop := (∀ q, q ≠ 0 → S q = T q) ∧ S 0 1 = T 0 1 ∧ S 0 2 = T 0 2
theorem ST.rf {T : nY} : ST T T := ⟨fun _ _ => rfl, rfl, rfl⟩
theorem ST.r {T S : nY} {j v : Nat} (h : ST T S) (hj : j ≠ 1 ∧ j ≠ 2) : ST T (nU S 0 j v) := ⟨fun q g => (nU_row g).trans (h.1 q g), (nU_nj (by omega)).trans h.2.1, (nU_nj (by omega)).trans h.2.2⟩
def ML (Y Z : zY) : Prop := (∀ q, q ≠ 102 → Z q = Y q) ∧ ∀ k, k ≠ 14 → Z 102 k = Y 102 k
theorem ML.rf {Y : zY} : ML Y Y := ⟨fun _ _ => rfl, fun _ _ => rfl⟩
theorem ML.f {X Y : zY} {v : Int32} (h : ML X Y) : ML X (zU Y 102 14 v) := ⟨fun q a => (zU_row a).trans (h.1 q a), fun k a => (zU_nj a).trans (h.2 k a)⟩
theorem MF.ml {X Y Z : zY} (h : MF X Y) (m : ML Y Z) : MF X Z := ⟨fun q a => (m.1 q (by omega)).trans (h.1 q a), fun k a b c d => (m.2 k d).trans (h.2 k a b c d)⟩
theorem MS.ml {N lv : Nat} {Y Z : zY} {S : nY} (h : MS N Y S lv) (m : ML Y Z) : MS N Z S lv := by
  obtain ⟨hn, ⟨q1, q2⟩, hf, f, hlv, hs⟩ := h
  have e110 := m.1 110 (by decide)
  have e111 := m.1 111 (by decide)
  refine ⟨hn.cg ⟨m.2 6 (by decide), m.1 107 (by decide), m.1 108 (by decide), m.1 109 (by decide)⟩ rfl rfl rfl rfl, ⟨(m.2 10 (by decide)).trans q1, (m.2 12 (by decide)).trans q2⟩, ?_, ?_, ?_, hs⟩
  · unfold FRM at *; rw [e110, e111]; exact hf
  · unfold FRM at *; rw [e110, e111]; exact f
  · rw [e111]; exact hlv
set_option maxHeartbeats 4000000 in
set_option maxRecDepth 100000 in
theorem kX6_suffix (l : Launch) (G : zG) (A : Nat → Nat) (Y : zY) (k9 v9 : Nat) (T9 : nY) (N : Nat) (hMS : MS N Y T9 1) (hN : N ≤ 79) (hdT : T9 0 1 ≤ 6) : ZV l yX6_suffix cX6_suffix 3 1 23 G A Y [.ref (A 102), .int (nI k9), .int (nI v9)] (fun Y' => MS (N + 1) Y' (sSuf T9 k9 v9) 1 ∧ MF Y Y') := by
  refine ZV.enter (by decide) (Nat.le_of_ble_eq_true rfl) ?_
  intro p e s m args below meth c R Q hxx hbb S hK hfr hlo hret H ls hP hS hl
  have hB : ∀ q, zAd A q → zAd A q := fun _ h => h
  have hl : lv_has ls 3 [(0, .ref (A 102)), (1, .int (nI k9)), (2, .int (nI v9))] := hl
  have S : CallFix p m c cX6_suffix 3 s args wsL_law RX6 := S
  obtain ⟨hlo1, hlo2, hlo3⟩ := hMS.lo hdT
  refine lv_aload_n hxx hbb dX6_suffix_0 rfl (lv_at hl 0 rfl) ?_
  refine lv_dup hxx hbb dX6_suffix_1 rfl ?_
  refine zgX6_82 S hK hP 102 (by decide) zk_102 (v := nI (wT T9 + 1)) (hMS.2.1.2) dX6_suffix_2 ?_
  refine lv_iconst (v := nI 1) hxx hbb dX6_suffix_5 (by decide) ?_
  refine zsubN S (by omega) dX6_suffix_6 ?_
  refine zpX6_82 S hK hP hS hB 102 (by decide) zk_102 dX6_suffix_7 (fun H locs hP hS => ?_)
  refine lv_aload_n hxx hbb dX6_suffix_10 rfl (lv_at hl 0 rfl) ?_
  refine lv_iload_n hxx hbb dX6_suffix_11 rfl (lv_at hl 1 rfl) ?_
  refine lv_aload_n hxx hbb dX6_suffix_12 rfl (lv_at hl 0 rfl) ?_
  refine zgX6_34 S hK hP 102 (by decide) zk_102 dX6_suffix_13 ?_
  refine lv_aload_n hxx hbb dX6_suffix_16 rfl (lv_at hl 0 rfl) ?_
  refine zgX6_82 S hK hP 102 (by decide) zk_102 (v := nI (wT T9 + 1 - 1)) (zU_eq) dX6_suffix_17 ?_
  refine zaldN S hK hP 111 80 (by decide) zk_111 zl_111 (by omega) (v := nI (T9 4 (T9 0 1) - 1)) ((zU_np (by decide)).trans ((by rw [Nat.add_sub_cancel]; exact hMS.2.2.2.2.1 rfl))) dX6_suffix_20 ?_
  refine lv_iload_n hxx hbb dX6_suffix_21 rfl (lv_at hl 2 rfl) ?_
  refine ZV.callV S hK hP hS hB (kX6_make l G A (zU Y 102 12 (nI (wT T9 + 1 - 1))) (T9 0 2) (wT T9 + 1 - 1) (nI k9) (nI (T9 4 (T9 0 1) - 1)) (nI v9) ((zU_nj (by decide)).trans hMS.1.1) (by omega) (zU_eq) (by omega)) zwX6_88 zdX6_make rfl ⟨Nat.le_trans (by decide) hfr, Nat.le_trans (by decide) hlo⟩ (by decide) (zcK6 zk_102) rfl rfl (Nat.le_of_ble_eq_true rfl) hl.1 dX6_suffix_22 ⟨Nat.zero_le _, Nat.zero_le _⟩ (fun Y_2 H locs hq_3 hP hS => ?_)
  have hm := hq_3
  rw [Nat.add_sub_cancel] at hm
  exact hret _ _ _ _ _ dX6_suffix_25 hP hS (⟨hMS.suf hm, (MF.rf.f (by omega)).m hm⟩)

set_option maxHeartbeats 4000000 in
set_option maxRecDepth 100000 in
theorem kX6_item (l : Launch) (G : zG) (A : Nat → Nat) (Y : zY) (a9 : Nat) (T9 : nY) (N : Nat) (hMS : MS N Y T9 a9) (hN : N ≤ 80) (hdT : T9 0 1 ≤ 6) (ha9 : a9 ≤ 1) (hl4 : a9 = 1 → 1 ≤ T9 4 (T9 0 1)) : ZV l yX6_item cX6_item 2 2 46 G A Y [.ref (A 102), .int (nI a9)] (fun Y' => MS N Y' (if a9 = 1 then sItem T9 else T9) 0 ∧ MF Y Y') := by
  refine ZV.enter (by decide) (Nat.le_of_ble_eq_true rfl) ?_
  intro p e s m args below meth c R Q hxx hbb S hK hfr hlo hret H ls hP hS hl
  have hB : ∀ q, zAd A q → zAd A q := fun _ h => h
  have hl : lv_has ls 2 [(0, .ref (A 102)), (1, .int (nI a9))] := hl
  have S : CallFix p m c cX6_item 2 s args wsL_law RX6 := S
  refine lv_iload_n hxx hbb dX6_item_0 rfl (lv_at hl 1 rfl) ?_
  refine zif_eq (tgt := 14) S (by omega) dX6_item_1 (by decide) (fun c_1 => ?_) (fun c_1 => ?_)
  · skip
    exact hret _ _ _ _ _ dX6_item_14 hP hS (⟨by rw [if_neg (by omega)]; have e0 : a9 = 0 := by { omega }; exact e0 ▸ hMS, MF.rf⟩)
  · skip
    have he1 : a9 = 1 := by omega
    have hMS1 : MS N Y T9 1 := he1 ▸ hMS
    refine lv_aload_n hxx hbb dX6_item_4 rfl (lv_at hl 0 rfl) ?_
    refine lv_iconst (v := nI 1) hxx hbb dX6_item_5 (by decide) ?_
    refine ZV.callV S hK hP hS hB (kX6_join l G A Y 1 T9 N (hMS1) (by omega) (hdT) (by omega)) zwX6_92 zdX6_join rfl ⟨Nat.le_trans (by decide) hfr, Nat.le_trans (by decide) hlo⟩ (by decide) (zcK6 zk_102) rfl rfl (Nat.le_of_ble_eq_true rfl) hl.1 dX6_item_6 ⟨Nat.zero_le _, Nat.zero_le _⟩ (fun Y_3 H locs hq_4 hP hS => ?_)
    obtain ⟨hMSj, hMFj⟩ := hq_4
    have hMSr : MS N Y_3 (jR T9) 1 := hMSj
    have hjf := jR_f T9
    obtain ⟨hlq1, hlq2, hlq3⟩ := hMSr.lo (by rw [hjf.1]; exact hdT)
    refine lv_aload_n hxx hbb dX6_item_9 rfl (lv_at hl 0 rfl) ?_
    refine lv_iconst (v := nI 1) hxx hbb dX6_item_10 (by decide) ?_
    refine ZV.callV S hK hP hS hB (kX6_hold l G A Y_3 (qT (jR T9)) 1 (hMSr.2.1.1) (by omega)) zwX6_96 zdX6_hold rfl ⟨Nat.le_trans (by decide) hfr, Nat.le_trans (by decide) hlo⟩ (by decide) (zcK6 zk_102) rfl rfl (Nat.le_of_ble_eq_true rfl) hl.1 dX6_item_11 ⟨Nat.zero_le _, Nat.zero_le _⟩ (fun Y_6 H locs hq_7 hP hS => ?_)
    rw [hq_7] at hP
    have hMSh := hMSr.hr (by rw [hjf.1]; exact hjf.2.1) (by rw [hjf.1]; exact hjf.2.2.2 (hl4 he1))
    rw [hjf.1] at hMSh
    have hMSh := hMSh.eq0 (eq_item T9) (Nat.le_refl _)
    exact hret _ _ _ _ _ dX6_item_14 hP hS (⟨by rw [if_pos he1]; exact hMSh, (hMFj.r (by omega)).f (by omega)⟩)

set_option maxHeartbeats 4000000 in
set_option maxRecDepth 100000 in
theorem kX6_set (l : Launch) (G : zG) (A : Nat → Nat) (Y : zY) (a8 n : Nat) (ch : Nat → Nat) (S0 T2 U : nY) (hG : G0 S0) (hn : n ≤ 40) (hch : ∀ k, k < n → Y 103 k = nI (ch k) ∧ ch k < 65536) (hU : sRun S0 ch n = some U) (hok : okS U) (hrun : sRun S0 ch (a8 + 1) = some T2) (hs2 : T2 0 0 = 2) (hs3 : T2 0 3 = 0) (hs4 : T2 0 4 = 0) (ha8 : a8 + 1 ≤ n) : ZI l yX6_set cX6_set 4 (.int) 0 0 G A Y [.ref (A 102), .int (nI a8)] (fun r Y' => ∃ b m T, a8 + 1 < b ∧ b ≤ n ∧ r = nI b ∧ sRun S0 ch b = some (sAtom T m) ∧ ST T2 T ∧ Y' 102 14 = nI m ∧ ML Y Y') := by
  refine ZI.enter (by decide) (Nat.le_of_ble_eq_true rfl) ?_
  intro p e s m args below meth c R Q hxx hbb S hK hfr hlo hret H ls hP hS hl
  have hB : ∀ q, zAd A q → zAd A q := fun _ h => h
  have hl : lv_has ls 4 [(0, .ref (A 102)), (1, .int (nI a8))] := hl
  have S : CallFix p m c cX6_set 4 s args wsL_law RX6 := S
  have hUn : sRun S0 ch n ≠ none := by rw [hU]; exact fun z => by cases z
  have hlt0 := run_lt hU hok ha8 hrun (fun z => by unfold okS at z; omega)
  have hgo0 := run_go hUn hlt0 hrun
  have hch0 := (hch _ hlt0).2
  refine lv_iload_n hxx hbb dX6_set_0 rfl (lv_at hl 1 rfl) ?_
  refine lv_iconst (v := nI 1) hxx hbb dX6_set_1 (by decide) ?_
  refine zaddN S dX6_set_2 ?_
  refine lv_istore_n (lv' := [(2, .int (nI (a8 + 1))), (0, .ref (A 102)), (1, .int (nI a8))]) hxx hbb dX6_set_3 rfl hl (by decide) rfl (fun ls hl => ?_)
  refine lv_aload_n hxx hbb dX6_set_4 rfl (lv_at hl 1 rfl) ?_
  refine zgX6_7 S hK hP 102 (by decide) zk_102 dX6_set_5 ?_
  refine lv_iload_n hxx hbb dX6_set_8 rfl (lv_at hl 0 rfl) ?_
  refine zaldN S hK hP 103 40 (by decide) zk_103 zl_103 (by omega) (v := nI (ch (a8 + 1))) ((hch _ (by omega)).1) dX6_set_9 ?_
  refine lv_bipush (v := nI 94) hxx hbb dX6_set_10 (by decide) ?_
  refine zcmp_ne (tgt := 19) S (by omega) (by omega) dX6_set_12 (by decide) (fun c_1 => ?_) (fun c_1 => ?_)
  · skip
    refine lv_iconst (v := nI 0) hxx hbb dX6_set_19 (by decide) ?_
    refine lv_istore_n (lv' := [(3, .int (nI 0)), (2, .int (nI (a8 + 1))), (0, .ref (A 102)), (1, .int (nI a8))]) hxx hbb dX6_set_20 rfl hl (by decide) rfl (fun ls hl => ?_)
    refine lv_iload_n hxx hbb dX6_set_21 rfl (lv_at hl 0 rfl) ?_
    refine zif_eq (tgt := 31) S (by omega) dX6_set_22 (by decide) (fun c_2 => ?_) (fun c_2 => ?_)
    · skip
      refine lv_iload_n hxx hbb dX6_set_31 rfl (lv_at hl 1 rfl) ?_
      refine lv_istore_n (lv' := [(2, .int (nI (a8 + 1))), (3, .int (nI 0)), (0, .ref (A 102)), (1, .int (nI a8))]) hxx hbb dX6_set_32 rfl hl (by decide) rfl (fun ls hl => ?_)
      refine lv_aload_n hxx hbb dX6_set_33 rfl (lv_at hl 2 rfl) ?_
      refine lv_iconst (v := nI 0) hxx hbb dX6_set_34 (by decide) ?_
      refine zpX6_99 S hK hP hS hB 102 (by decide) zk_102 dX6_set_35 (fun H locs hP hS => ?_)
      have L_38 : ∀ (N_38 : Nat) (k o8 : Nat) (T1 : nY) (Y1 : zY) (hk : k ≤ n) (hk0 : a8 < k) (hrun1 : sRun S0 ch k = some T1) (hst : (T1 0 0 = 2 ∧ ch k ≠ 94) ∨ T1 0 0 = 3 ∨ T1 0 0 = 4) (hST : ST T2 T1) (ho : T1 0 4 = o8) (ho1 : o8 ≤ 1) (hl14 : Y1 102 14 = nI (T1 0 3)) (hML : ML Y Y1), n - k < N_38 → ∀ (H : Heap) (locs : List Loc) (ls : Array Slot), va_P G.1 vwCl (zW G A Y1) H → va_S (zAd A) s.heap H locs → lv_has ls 4 [(0, .ref (A 102)), (1, .int (nI a8)), (2, .int (nI k)), (3, .int (nI o8))] → W p l e R s m args below meth c H locs 0 0 Q (F0 m 38 ls []) := by
        intro N_38
        induction N_38 with
        | zero => intro k o8 T1 Y1 hk hk0 hrun1 hst hST ho ho1 hl14 hML hm; exact absurd hm (Nat.not_lt_zero _)
        | succ N_38 ih_38 =>
          intro k o8 T1 Y1 hk hk0 hrun1 hst hST ho ho1 hl14 hML hm_38 H locs ls hP hS hl
          have hRI := hG.run k (by omega) T1 hrun1
          have hsl := hRI.1.2.2.1
          have hlt := run_lt hU hok hk hrun1 (fun z => by unfold okS at z; omega)
          have hgo := run_go hUn hlt hrun1
          have hcl := nx_set hgo.1 hst
          have hck := (hch k hlt).2
          refine lv_aload_n hxx hbb dX6_set_38 rfl (lv_at hl 0 rfl) ?_
          refine zgX6_7 S hK hP 102 (by decide) zk_102 dX6_set_39 ?_
          refine lv_iload_n hxx hbb dX6_set_42 rfl (lv_at hl 2 rfl) ?_
          refine zaldN S hK hP 103 40 (by decide) zk_103 zl_103 (by omega) (v := nI (ch k)) ((congrFun (hML.1 103 (by decide)) _).trans (hch _ (by omega)).1) dX6_set_43 ?_
          refine lv_bipush (v := nI 93) hxx hbb dX6_set_44 (by decide) ?_
          refine zcmp_eq (tgt := 75) S (by omega) (by omega) dX6_set_46 (by decide) (fun c_3 => ?_) (fun c_3 => ?_)
          · skip
            refine lv_aload_n hxx hbb dX6_set_75 rfl (lv_at hl 0 rfl) ?_
            refine lv_iload_n hxx hbb dX6_set_76 rfl (lv_at hl 3 rfl) ?_
            refine zif_eq (tgt := 92) S (by omega) dX6_set_77 (by decide) (fun c_4 => ?_) (fun c_4 => ?_)
            · skip
              refine lv_aload_n hxx hbb dX6_set_92 rfl (lv_at hl 0 rfl) ?_
              refine zgX6_99 S hK hP 102 (by decide) zk_102 (v := nI (T1 0 3)) (hl14) dX6_set_93 ?_
              refine zpX6_99 S hK hP hS hB 102 (by decide) zk_102 dX6_set_96 (fun H locs hP hS => ?_)
              refine lv_iload_n hxx hbb dX6_set_99 rfl (lv_at hl 2 rfl) ?_
              refine lv_iconst (v := nI 1) hxx hbb dX6_set_100 (by decide) ?_
              refine zaddN S dX6_set_101 ?_
              exact hret _ _ _ _ _ _ dX6_set_102 (rfl) hP hS (⟨k + 1, if T1 0 4 = 0 then T1 0 3 else cmask (T1 0 3), T1, by omega, by omega, rfl, hgo.2.trans (congrArg some (sAct_e (by omega) (by omega))), hST, zU_eq.trans (by rw [ho]; rw [if_pos c_4]), hML.f⟩)
            · skip
              refine zldc S (v := 67108863) zxX6_102 dX6_set_80 ?_
              rw [show (67108863 : Int32) = nI 67108863 from rfl]
              refine lv_aload_n hxx hbb dX6_set_82 rfl (lv_at hl 0 rfl) ?_
              refine zgX6_99 S hK hP 102 (by decide) zk_102 (v := nI (T1 0 3)) (hl14) dX6_set_83 ?_
              refine lv_iconst (v := (-1)) hxx hbb dX6_set_86 (by decide) ?_
              refine lv_ixor hxx hbb dX6_set_87 ?_
              refine lv_iand hxx hbb dX6_set_88 ?_
              rw [cmask_eq]
              refine lv_goto (tgt := 96) hxx hbb dX6_set_89 (by decide) ?_
              refine zpX6_99 S hK hP hS hB 102 (by decide) zk_102 dX6_set_96 (fun H locs hP hS => ?_)
              refine lv_iload_n hxx hbb dX6_set_99 rfl (lv_at hl 2 rfl) ?_
              refine lv_iconst (v := nI 1) hxx hbb dX6_set_100 (by decide) ?_
              refine zaddN S dX6_set_101 ?_
              exact hret _ _ _ _ _ _ dX6_set_102 (rfl) hP hS (⟨k + 1, if T1 0 4 = 0 then T1 0 3 else cmask (T1 0 3), T1, by omega, by omega, rfl, hgo.2.trans (congrArg some (sAct_e (by omega) (by omega))), hST, zU_eq.trans (by rw [ho]; rw [if_neg c_4]), hML.f⟩)
          · skip
            refine lv_aload_n hxx hbb dX6_set_49 rfl (lv_at hl 0 rfl) ?_
            refine lv_dup hxx hbb dX6_set_50 rfl ?_
            refine zgX6_99 S hK hP 102 (by decide) zk_102 (v := nI (T1 0 3)) (hl14) dX6_set_51 ?_
            refine lv_iconst (v := nI 1) hxx hbb dX6_set_54 (by decide) ?_
            refine lv_aload_n hxx hbb dX6_set_55 rfl (lv_at hl 0 rfl) ?_
            refine zgX6_7 S hK hP 102 (by decide) zk_102 dX6_set_56 ?_
            refine lv_iload_n hxx hbb dX6_set_59 rfl (lv_at hl 2 rfl) ?_
            refine zaldN S hK hP 103 40 (by decide) zk_103 zl_103 (by omega) (v := nI (ch k)) ((congrFun (hML.1 103 (by decide)) _).trans (hch _ (by omega)).1) dX6_set_60 ?_
            refine lv_bipush (v := nI 97) hxx hbb dX6_set_61 (by decide) ?_
            refine zsubN S (by omega) dX6_set_63 ?_
            refine lv_ishl hxx hbb dX6_set_64 ?_
            have hltr : 97 ≤ ch k ∧ ch k ≤ 122 := by omega
            have hpw : 2 ^ (ch k - 97) < 2 ^ 26 := Nat.pow_lt_pow_right (by decide) (by omega)
            rw [zshl (by omega)]
            refine lv_ior hxx hbb dX6_set_65 ?_
            rw [zor hsl hpw]
            refine zpX6_99 S hK hP hS hB 102 (by decide) zk_102 dX6_set_66 (fun H locs hP hS => ?_)
            refine lv_iinc (v := nI (k + 1)) (lv' := [(2, .int (nI (k + 1))), (0, .ref (A 102)), (1, .int (nI a8)), (3, .int (nI o8))]) hxx hbb dX6_set_69 hl (k := 2) rfl (zinc1 _) (by decide) rfl (fun ls hl => ?_)
            refine lv_goto (tgt := 38) hxx hbb dX6_set_72 (by decide) ?_
            exact ih_38 (k + 1) o8 (nU (nU T1 0 3 (T1 0 3 ||| 2 ^ (ch k - 97))) 0 0 4) (zU Y1 102 14 (nI (T1 0 3 ||| 2 ^ (ch k - 97)))) (by omega) (by omega) (hgo.2.trans (congrArg some (sAct_l (by omega) hltr))) (Or.inr (Or.inr nU_eq)) ((hST.r (by decide)).r (by decide)) (by rw [nU_nj (by decide), nU_nj (by decide)]; exact ho) ho1 (zU_eq.trans (by simp [nU])) hML.f (by omega) _ _ _ hP hS (lv_sub hl [1, 2, 0, 3] rfl)
      exact L_38 (_ + 1) (a8 + 1) 0 T2 (zU Y 102 14 (nI 0)) (by omega) (by omega) hrun (Or.inl ⟨hs2, by omega⟩) ST.rf hs4 (by omega) (zU_eq.trans (by rw [hs3])) ML.rf.f (Nat.lt_succ_self _) _ _ _ hP hS (lv_sub hl [2, 3, 0, 1] rfl)
    · skip
      exact absurd c_2 (by decide)
  · skip
    refine lv_iconst (v := nI 1) hxx hbb dX6_set_15 (by decide) ?_
    refine lv_goto (tgt := 20) hxx hbb dX6_set_16 (by decide) ?_
    refine lv_istore_n (lv' := [(3, .int (nI 1)), (2, .int (nI (a8 + 1))), (0, .ref (A 102)), (1, .int (nI a8))]) hxx hbb dX6_set_20 rfl hl (by decide) rfl (fun ls hl => ?_)
    refine lv_iload_n hxx hbb dX6_set_21 rfl (lv_at hl 0 rfl) ?_
    refine zif_eq (tgt := 31) S (by omega) dX6_set_22 (by decide) (fun c_5 => ?_) (fun c_5 => ?_)
    · skip
      exact absurd c_5 (by decide)
    · skip
      refine lv_iload_n hxx hbb dX6_set_25 rfl (lv_at hl 1 rfl) ?_
      refine lv_iconst (v := nI 1) hxx hbb dX6_set_26 (by decide) ?_
      refine zaddN S dX6_set_27 ?_
      refine lv_goto (tgt := 32) hxx hbb dX6_set_28 (by decide) ?_
      refine lv_istore_n (lv' := [(2, .int (nI (a8 + 1 + 1))), (3, .int (nI 1)), (0, .ref (A 102)), (1, .int (nI a8))]) hxx hbb dX6_set_32 rfl hl (by decide) rfl (fun ls hl => ?_)
      refine lv_aload_n hxx hbb dX6_set_33 rfl (lv_at hl 2 rfl) ?_
      refine lv_iconst (v := nI 0) hxx hbb dX6_set_34 (by decide) ?_
      refine zpX6_99 S hK hP hS hB 102 (by decide) zk_102 dX6_set_35 (fun H locs hP hS => ?_)
      have L_38 : ∀ (N_38 : Nat) (k o8 : Nat) (T1 : nY) (Y1 : zY) (hk : k ≤ n) (hk0 : a8 < k) (hrun1 : sRun S0 ch k = some T1) (hst : (T1 0 0 = 2 ∧ ch k ≠ 94) ∨ T1 0 0 = 3 ∨ T1 0 0 = 4) (hST : ST T2 T1) (ho : T1 0 4 = o8) (ho1 : o8 ≤ 1) (hl14 : Y1 102 14 = nI (T1 0 3)) (hML : ML Y Y1), n - k < N_38 → ∀ (H : Heap) (locs : List Loc) (ls : Array Slot), va_P G.1 vwCl (zW G A Y1) H → va_S (zAd A) s.heap H locs → lv_has ls 4 [(0, .ref (A 102)), (1, .int (nI a8)), (2, .int (nI k)), (3, .int (nI o8))] → W p l e R s m args below meth c H locs 0 0 Q (F0 m 38 ls []) := by
        intro N_38
        induction N_38 with
        | zero => intro k o8 T1 Y1 hk hk0 hrun1 hst hST ho ho1 hl14 hML hm; exact absurd hm (Nat.not_lt_zero _)
        | succ N_38 ih_38 =>
          intro k o8 T1 Y1 hk hk0 hrun1 hst hST ho ho1 hl14 hML hm_38 H locs ls hP hS hl
          have hRI := hG.run k (by omega) T1 hrun1
          have hsl := hRI.1.2.2.1
          have hlt := run_lt hU hok hk hrun1 (fun z => by unfold okS at z; omega)
          have hgo := run_go hUn hlt hrun1
          have hcl := nx_set hgo.1 hst
          have hck := (hch k hlt).2
          refine lv_aload_n hxx hbb dX6_set_38 rfl (lv_at hl 0 rfl) ?_
          refine zgX6_7 S hK hP 102 (by decide) zk_102 dX6_set_39 ?_
          refine lv_iload_n hxx hbb dX6_set_42 rfl (lv_at hl 2 rfl) ?_
          refine zaldN S hK hP 103 40 (by decide) zk_103 zl_103 (by omega) (v := nI (ch k)) ((congrFun (hML.1 103 (by decide)) _).trans (hch _ (by omega)).1) dX6_set_43 ?_
          refine lv_bipush (v := nI 93) hxx hbb dX6_set_44 (by decide) ?_
          refine zcmp_eq (tgt := 75) S (by omega) (by omega) dX6_set_46 (by decide) (fun c_6 => ?_) (fun c_6 => ?_)
          · skip
            refine lv_aload_n hxx hbb dX6_set_75 rfl (lv_at hl 0 rfl) ?_
            refine lv_iload_n hxx hbb dX6_set_76 rfl (lv_at hl 3 rfl) ?_
            refine zif_eq (tgt := 92) S (by omega) dX6_set_77 (by decide) (fun c_7 => ?_) (fun c_7 => ?_)
            · skip
              refine lv_aload_n hxx hbb dX6_set_92 rfl (lv_at hl 0 rfl) ?_
              refine zgX6_99 S hK hP 102 (by decide) zk_102 (v := nI (T1 0 3)) (hl14) dX6_set_93 ?_
              refine zpX6_99 S hK hP hS hB 102 (by decide) zk_102 dX6_set_96 (fun H locs hP hS => ?_)
              refine lv_iload_n hxx hbb dX6_set_99 rfl (lv_at hl 2 rfl) ?_
              refine lv_iconst (v := nI 1) hxx hbb dX6_set_100 (by decide) ?_
              refine zaddN S dX6_set_101 ?_
              exact hret _ _ _ _ _ _ dX6_set_102 (rfl) hP hS (⟨k + 1, if T1 0 4 = 0 then T1 0 3 else cmask (T1 0 3), T1, by omega, by omega, rfl, hgo.2.trans (congrArg some (sAct_e (by omega) (by omega))), hST, zU_eq.trans (by rw [ho]; rw [if_pos c_7]), hML.f⟩)
            · skip
              refine zldc S (v := 67108863) zxX6_102 dX6_set_80 ?_
              rw [show (67108863 : Int32) = nI 67108863 from rfl]
              refine lv_aload_n hxx hbb dX6_set_82 rfl (lv_at hl 0 rfl) ?_
              refine zgX6_99 S hK hP 102 (by decide) zk_102 (v := nI (T1 0 3)) (hl14) dX6_set_83 ?_
              refine lv_iconst (v := (-1)) hxx hbb dX6_set_86 (by decide) ?_
              refine lv_ixor hxx hbb dX6_set_87 ?_
              refine lv_iand hxx hbb dX6_set_88 ?_
              rw [cmask_eq]
              refine lv_goto (tgt := 96) hxx hbb dX6_set_89 (by decide) ?_
              refine zpX6_99 S hK hP hS hB 102 (by decide) zk_102 dX6_set_96 (fun H locs hP hS => ?_)
              refine lv_iload_n hxx hbb dX6_set_99 rfl (lv_at hl 2 rfl) ?_
              refine lv_iconst (v := nI 1) hxx hbb dX6_set_100 (by decide) ?_
              refine zaddN S dX6_set_101 ?_
              exact hret _ _ _ _ _ _ dX6_set_102 (rfl) hP hS (⟨k + 1, if T1 0 4 = 0 then T1 0 3 else cmask (T1 0 3), T1, by omega, by omega, rfl, hgo.2.trans (congrArg some (sAct_e (by omega) (by omega))), hST, zU_eq.trans (by rw [ho]; rw [if_neg c_7]), hML.f⟩)
          · skip
            refine lv_aload_n hxx hbb dX6_set_49 rfl (lv_at hl 0 rfl) ?_
            refine lv_dup hxx hbb dX6_set_50 rfl ?_
            refine zgX6_99 S hK hP 102 (by decide) zk_102 (v := nI (T1 0 3)) (hl14) dX6_set_51 ?_
            refine lv_iconst (v := nI 1) hxx hbb dX6_set_54 (by decide) ?_
            refine lv_aload_n hxx hbb dX6_set_55 rfl (lv_at hl 0 rfl) ?_
            refine zgX6_7 S hK hP 102 (by decide) zk_102 dX6_set_56 ?_
            refine lv_iload_n hxx hbb dX6_set_59 rfl (lv_at hl 2 rfl) ?_
            refine zaldN S hK hP 103 40 (by decide) zk_103 zl_103 (by omega) (v := nI (ch k)) ((congrFun (hML.1 103 (by decide)) _).trans (hch _ (by omega)).1) dX6_set_60 ?_
            refine lv_bipush (v := nI 97) hxx hbb dX6_set_61 (by decide) ?_
            refine zsubN S (by omega) dX6_set_63 ?_
            refine lv_ishl hxx hbb dX6_set_64 ?_
            have hltr : 97 ≤ ch k ∧ ch k ≤ 122 := by omega
            have hpw : 2 ^ (ch k - 97) < 2 ^ 26 := Nat.pow_lt_pow_right (by decide) (by omega)
            rw [zshl (by omega)]
            refine lv_ior hxx hbb dX6_set_65 ?_
            rw [zor hsl hpw]
            refine zpX6_99 S hK hP hS hB 102 (by decide) zk_102 dX6_set_66 (fun H locs hP hS => ?_)
            refine lv_iinc (v := nI (k + 1)) (lv' := [(2, .int (nI (k + 1))), (0, .ref (A 102)), (1, .int (nI a8)), (3, .int (nI o8))]) hxx hbb dX6_set_69 hl (k := 2) rfl (zinc1 _) (by decide) rfl (fun ls hl => ?_)
            refine lv_goto (tgt := 38) hxx hbb dX6_set_72 (by decide) ?_
            exact ih_38 (k + 1) o8 (nU (nU T1 0 3 (T1 0 3 ||| 2 ^ (ch k - 97))) 0 0 4) (zU Y1 102 14 (nI (T1 0 3 ||| 2 ^ (ch k - 97)))) (by omega) (by omega) (hgo.2.trans (congrArg some (sAct_l (by omega) hltr))) (Or.inr (Or.inr nU_eq)) ((hST.r (by decide)).r (by decide)) (by rw [nU_nj (by decide), nU_nj (by decide)]; exact ho) ho1 (zU_eq.trans (by simp [nU])) hML.f (by omega) _ _ _ hP hS (lv_sub hl [1, 2, 0, 3] rfl)
      exact L_38 (_ + 1) (a8 + 1 + 1) 1 (nU (nU T2 0 4 1) 0 0 3) (zU Y 102 14 (nI 0)) (by omega) (by omega) (hgo0.2.trans (congrArg some (sAct_o (by omega) (by omega)))) (Or.inr (Or.inl nU_eq)) ((ST.rf.r (by decide)).r (by decide)) (by rw [nU_nj (by decide), nU_eq]) (by omega) (zU_eq.trans (by simp [nU, hs3])) ML.rf.f (Nat.lt_succ_self _) _ _ _ hP hS (lv_sub hl [2, 3, 0, 1] rfl)
