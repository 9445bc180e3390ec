theorem end_of {S0 : nY} {ch : Nat → Nat} {n : Nat} {r : Int32} (h : fltR S0 ch n r) (hr : r = -1) (hb : n < 2 ^ 31) : ∃ U, sRun S0 ch n = some U ∧ okS U := by
  rcases h with ⟨k, S, h1, h2, h3, h4⟩ | ⟨S, h1, h2, h3⟩ | ⟨S, h1, h2, h3⟩
  · exact absurd (h4.symm.trans hr) (nI_nem1 (by omega))
  · exact absurd (h3.symm.trans hr) (nI_nem1 hb)
  · exact ⟨S, h1, h2⟩
def KMx (Y Z : zY) : Prop := (∀ q, (q < 102 ∨ (102 < q ∧ q < 107) ∨ 111 < q) → Z q = Y q) ∧ ∀ k, k ≠ 0 → k ≠ 6 → k ≠ 10 → k ≠ 12 → k ≠ 14 → Z 102 k = Y 102 k
def KMp (Y Z : zY) : Prop := (∀ q, (q < 102 ∨ q = 103 ∨ 111 < q) → Z q = Y q) ∧ ∀ k, k ≠ 0 → k ≠ 2 → k ≠ 6 → k ≠ 10 → k ≠ 12 → k ≠ 14 → k ≠ 21 → k ≠ 23 → k ≠ 24 → Z 102 k = Y 102 k
theorem KMx.rf {Y : zY} : KMx Y Y := ⟨fun _ _ => rfl, fun _ _ _ _ _ _ => rfl⟩
theorem KMx.t {X Y : zY} {v : Int32} (h : KMx X Y) : KMx X (zU Y 102 0 v) := ⟨fun q a => (zU_row (by omega)).trans (h.1 q a), fun k a b c d e => (zU_nj a).trans (h.2 k a b c d e)⟩
theorem MF.x {X Y : zY} (h : MF X Y) : KMx X Y := ⟨h.1, fun k _ b c d e => h.2 k b c d e⟩
theorem KMx.p {X Y : zY} (h : KMx X Y) : KMp X Y := ⟨fun q a => h.1 q (by omega), fun k a _ b c d e _ _ _ => h.2 k a b c d e⟩
theorem KMp.f {X Y : zY} {j : Nat} {v : Int32} (h : KMp X Y) (hj : j = 2 ∨ j = 21 ∨ j = 23 ∨ j = 24) : KMp X (zU Y 102 j v) := ⟨fun q a => (zU_row (by omega)).trans (h.1 q a), fun k a b c d e f g i o => (zU_nj (by omega)).trans (h.2 k a b c d e f g i o)⟩
theorem KMp.r {X Y : zY} {a j : Nat} {v : Int32} (h : KMp X Y) (ha : 104 ≤ a ∧ a ≤ 106) : KMp X (zU Y a j v) := ⟨fun q b => (zU_row (by omega)).trans (h.1 q b), fun k q1 b c d e f g i o => (zU_np (by omega)).trans (h.2 k q1 b c d e f g i o)⟩
/-- the first k nodes are copied -/
def CPm (Y : zY) (S : nY) (k : Nat) : Prop := ∀ j, j < k → Y 104 j = nI (S 1 j) ∧ Y 105 j = nI (S 2 j) ∧ Y 106 j = nI (S 3 j)
theorem CPm.s {Y : zY} {S : nY} {k : Nat} (h : CPm Y S k) : CPm (zU (zU (zU Y 104 k (nI (S 1 k))) 105 k (nI (S 2 k))) 106 k (nI (S 3 k))) S (k + 1) := by
  intro j hj
  by_cases g : j = k
  · subst g; simp [zU]
  · have := h j (by omega)
    simp [zU, g]; exact this
theorem NR.zr {Y : zY} {S : nY} {a j : Nat} {v : Int32} (h : NR Y S) (ha : (104 ≤ a ∧ a ≤ 106) ∨ (a = 102 ∧ j ≠ 6)) : NR (zU Y a j v) S := by
  refine h.cg ⟨?_, zU_row (by omega), zU_row (by omega), zU_row (by omega)⟩ rfl rfl rfl rfl
  rcases ha with g | ⟨g1, g2⟩
  · exact zU_np (by omega)
  · exact zU_nj (by omega)
theorem CPm.f {Y : zY} {S : nY} {k j : Nat} {v : Int32} (h : CPm Y S k) : CPm (zU Y 102 j v) S k := fun i hi => by
  rw [zU_np (by decide), zU_np (by decide), zU_np (by decide)]; exact h i hi
set_option maxHeartbeats 4000000 in
set_option maxRecDepth 100000 in
theorem kX6_compile (l : Launch) (G : zG) (A : Nat → Nat) (Y : zY) (n : Nat) (ch : Nat → Nat) (S0 : nY) (hG : G0 S0) (hn : n ≤ 40) (hch : ∀ k, k < n → Y 103 k = nI (ch k) ∧ ch k < 65536) (h0 : Y 102 0 = nI n) : ZI l yX6_compile cX6_compile 3 (.int) 4 91 G A Y [.ref (A 102)] (fun r Y' => ∃ q, fltR S0 ch n q ∧ ((q ≠ -1 ∧ r = q ∧ KMx Y Y') ∨ (q = -1 ∧ ∃ U, sRun S0 ch n = some U ∧ ((24 < sEnd U 0 2 ∧ r = -2 ∧ KMx Y Y') ∨ (sEnd U 0 2 ≤ 24 ∧ r = -1 ∧ Y' 102 2 = nI (sEnd U 0 2) ∧ CPm Y' (sEnd U) (sEnd U 0 2) ∧ KMp Y Y' ∧ Y' 102 21 = nI 0 ∧ Y' 102 23 = -1 ∧ Y' 102 24 = -1)))) ∧ Y' 102 0 = nI 0) := by
  refine ZI.enter (by decide) (Nat.le_of_ble_eq_true rfl) ?_
  intro p e s m args below meth c R Q hxx hbb S hK hfr hlo hret H ls hP hS hl
  have hB : ∀ q, zAd A q → zAd A q := fun _ h => h
  have hl : lv_has ls 3 [(0, .ref (A 102))] := hl
  have S : CallFix p m c cX6_compile 3 s args wsL_law RX6 := S
  refine lv_aload_n hxx hbb dX6_compile_0 rfl (lv_at hl 0 rfl) ?_
  refine ZI.callV S hK hP hS hB (kX6_fault l G A Y n ch S0 hG hn hch h0) zwX6_115 zdX6_fault rfl ⟨Nat.le_trans (by decide) hfr, Nat.le_trans (by decide) hlo⟩ (by decide) (zcK6 zk_102) rfl rfl (Nat.le_of_ble_eq_true rfl) hl.1 dX6_compile_1 ⟨Nat.zero_le _, Nat.zero_le _⟩ (fun r_1 Y_2 H locs hq_3 hP hS => ?_)
  obtain ⟨hflt, hY9⟩ := hq_3
  rw [hY9] at hP
  refine lv_istore_n (lv' := [(1, .int r_1), (0, .ref (A 102))]) hxx hbb dX6_compile_4 rfl hl (by decide) rfl (fun ls hl => ?_)
  refine lv_iload_n hxx hbb dX6_compile_5 rfl (lv_at hl 0 rfl) ?_
  refine lv_iconst (v := (-1)) hxx hbb dX6_compile_6 (by decide) ?_
  refine lv_icmp_eq (tgt := 17) hxx hbb dX6_compile_7 (by decide) (fun c_4 => ?_) (fun c_4 => ?_)
  · skip
    obtain ⟨U, hU, hok⟩ := end_of hflt c_4 (by omega)
    refine lv_aload_n hxx hbb dX6_compile_17 rfl (lv_at hl 1 rfl) ?_
    refine ZV.callV S hK hP hS hB (kX6_read l G A Y n ch S0 U hG hn hch h0 hU hok) zwX6_119 zdX6_read rfl ⟨Nat.le_trans (by decide) hfr, Nat.le_trans (by decide) hlo⟩ (by decide) (zcK6 zk_102) rfl rfl (Nat.le_of_ble_eq_true rfl) hl.1 dX6_compile_18 ⟨Nat.zero_le _, Nat.zero_le _⟩ (fun Y_6 H locs hq_7 hP hS => ?_)
    obtain ⟨hNR, hNc, hMFr⟩ := hq_7
    refine lv_aload_n hxx hbb dX6_compile_21 rfl (lv_at hl 1 rfl) ?_
    refine lv_iconst (v := nI 0) hxx hbb dX6_compile_22 (by decide) ?_
    refine zpX6_68 S hK hP hS hB 102 (by decide) zk_102 dX6_compile_23 (fun H locs hP hS => ?_)
    refine lv_aload_n hxx hbb dX6_compile_26 rfl (lv_at hl 1 rfl) ?_
    refine zgX6_79 S hK hP 102 (by decide) zk_102 (v := nI (sEnd U 0 2)) ((zU_nj (by decide)).trans (hNR.1)) dX6_compile_27 ?_
    refine lv_bipush (v := nI 24) hxx hbb dX6_compile_30 (by decide) ?_
    refine zcmp_le (tgt := 38) S (by omega) (by omega) dX6_compile_32 (by decide) (fun c_8 => ?_) (fun c_8 => ?_)
    · skip
      refine lv_aload_n hxx hbb dX6_compile_38 rfl (lv_at hl 1 rfl) ?_
      refine lv_aload_n hxx hbb dX6_compile_39 rfl (lv_at hl 1 rfl) ?_
      refine zgX6_79 S hK hP 102 (by decide) zk_102 (v := nI (sEnd U 0 2)) ((zU_nj (by decide)).trans (hNR.1)) dX6_compile_40 ?_
      refine zpX6_122 S hK hP hS hB 102 (by decide) zk_102 dX6_compile_43 (fun H locs hP hS => ?_)
      refine lv_iconst (v := nI 0) hxx hbb dX6_compile_46 (by decide) ?_
      refine lv_istore_n (lv' := [(2, .int (nI 0)), (1, .int r_1), (0, .ref (A 102))]) hxx hbb dX6_compile_47 rfl hl (by decide) rfl (fun ls hl => ?_)
      have L_48 : ∀ (N_48 : Nat) (k : Nat) (Y1 : zY) (hk : k ≤ sEnd U 0 2) (hNR1 : NR Y1 (sEnd U)) (hCP : CPm Y1 (sEnd U) k) (hKM : KMp Y Y1) (h2 : Y1 102 2 = nI (sEnd U 0 2)) (h00 : Y1 102 0 = nI 0), sEnd U 0 2 - k < N_48 → ∀ (H : Heap) (locs : List Loc) (ls : Array Slot), va_P G.1 vwCl (zW G A Y1) H → va_S (zAd A) s.heap H locs → lv_has ls 3 [(0, .ref (A 102)), (2, .int (nI k))] → W p l e R s m args below meth c H locs 0 0 Q (F0 m 48 ls []) := by
        intro N_48
        induction N_48 with
        | zero => intro k Y1 hk hNR1 hCP hKM h2 h00 hm; exact absurd hm (Nat.not_lt_zero _)
        | succ N_48 ih_48 =>
          intro k Y1 hk hNR1 hCP hKM h2 h00 hm_48 H locs ls hP hS hl
          refine lv_iload_n hxx hbb dX6_compile_48 rfl (lv_at hl 1 rfl) ?_
          refine lv_aload_n hxx hbb dX6_compile_49 rfl (lv_at hl 0 rfl) ?_
          refine zgX6_122 S hK hP 102 (by decide) zk_102 (v := nI (sEnd U 0 2)) (h2) dX6_compile_50 ?_
          refine zcmp_ge (tgt := 98) S (by omega) (by omega) dX6_compile_53 (by decide) (fun c_9 => ?_) (fun c_9 => ?_)
          · skip
            refine lv_aload_n hxx hbb dX6_compile_98 rfl (lv_at hl 0 rfl) ?_
            refine ZV.callV S hK hP hS hB (kX6_changed l G A Y1) zwX6_125 zdX6_changed rfl ⟨Nat.le_trans (by decide) hfr, Nat.le_trans (by decide) hlo⟩ (by decide) (zcK6 zk_102) rfl rfl (Nat.le_of_ble_eq_true rfl) hl.1 dX6_compile_99 ⟨Nat.zero_le _, Nat.zero_le _⟩ (fun Y_11 H locs hq_12 hP hS => ?_)
            rw [hq_12] at hP
            refine lv_iconst (v := (-1)) hxx hbb dX6_compile_102 (by decide) ?_
            exact hret _ _ _ _ _ _ dX6_compile_103 (rfl) hP hS (⟨_, hflt, Or.inr ⟨c_4, U, hU, Or.inr ⟨by omega, rfl, by simp [zU]; exact h2, (by have e9 : k = sEnd U 0 2 := (by omega); rw [e9] at hCP; exact hCP.f.f.f), ((hKM.f (by omega)).f (by omega)).f (by omega), by simp [zU], by simp [zU], by simp [zU]⟩⟩, by simp [zU]; exact h00⟩)
          · skip
            refine lv_aload_n hxx hbb dX6_compile_56 rfl (lv_at hl 0 rfl) ?_
            refine zgX6_13 S hK hP 102 (by decide) zk_102 dX6_compile_57 ?_
            refine lv_iload_n hxx hbb dX6_compile_60 rfl (lv_at hl 1 rfl) ?_
            refine lv_aload_n hxx hbb dX6_compile_61 rfl (lv_at hl 0 rfl) ?_
            refine zgX6_22 S hK hP 102 (by decide) zk_102 dX6_compile_62 ?_
            refine lv_iload_n hxx hbb dX6_compile_65 rfl (lv_at hl 1 rfl) ?_
            refine zaldN S hK hP 107 80 (by decide) zk_107 zl_107 (by omega) (v := nI (sEnd U 1 k)) ((hNR1.2 _ (by omega)).1) dX6_compile_66 ?_
            refine zastN S hK hP hS hB 104 24 (by decide) zk_104 zl_104 (by omega) dX6_compile_67 (fun H locs hP hS => ?_)
            refine lv_aload_n hxx hbb dX6_compile_68 rfl (lv_at hl 0 rfl) ?_
            refine zgX6_16 S hK hP 102 (by decide) zk_102 dX6_compile_69 ?_
            refine lv_iload_n hxx hbb dX6_compile_72 rfl (lv_at hl 1 rfl) ?_
            refine lv_aload_n hxx hbb dX6_compile_73 rfl (lv_at hl 0 rfl) ?_
            refine zgX6_25 S hK hP 102 (by decide) zk_102 dX6_compile_74 ?_
            refine lv_iload_n hxx hbb dX6_compile_77 rfl (lv_at hl 1 rfl) ?_
            refine zaldN S hK hP 108 80 (by decide) zk_108 zl_108 (by omega) (v := nI (sEnd U 2 k)) ((zU_np (by decide)).trans ((hNR1.2 _ (by omega)).2.1)) dX6_compile_78 ?_
            refine zastN S hK hP hS hB 105 24 (by decide) zk_105 zl_105 (by omega) dX6_compile_79 (fun H locs hP hS => ?_)
            refine lv_aload_n hxx hbb dX6_compile_80 rfl (lv_at hl 0 rfl) ?_
            refine zgX6_19 S hK hP 102 (by decide) zk_102 dX6_compile_81 ?_
            refine lv_iload_n hxx hbb dX6_compile_84 rfl (lv_at hl 1 rfl) ?_
            refine lv_aload_n hxx hbb dX6_compile_85 rfl (lv_at hl 0 rfl) ?_
            refine zgX6_28 S hK hP 102 (by decide) zk_102 dX6_compile_86 ?_
            refine lv_iload_n hxx hbb dX6_compile_89 rfl (lv_at hl 1 rfl) ?_
            refine zaldN S hK hP 109 80 (by decide) zk_109 zl_109 (by omega) (v := nI (sEnd U 3 k)) ((zU_np (by decide)).trans ((zU_np (by decide)).trans ((hNR1.2 _ (by omega)).2.2))) dX6_compile_90 ?_
            refine zastN S hK hP hS hB 106 24 (by decide) zk_106 zl_106 (by omega) dX6_compile_91 (fun H locs hP hS => ?_)
            refine lv_iinc (v := nI (k + 1)) (lv' := [(2, .int (nI (k + 1))), (0, .ref (A 102))]) hxx hbb dX6_compile_92 hl (k := 1) rfl (zinc1 _) (by decide) rfl (fun ls hl => ?_)
            refine lv_goto (tgt := 48) hxx hbb dX6_compile_95 (by decide) ?_
            exact ih_48 (k + 1) (zU (zU (zU Y1 104 k (nI (sEnd U 1 k))) 105 k (nI (sEnd U 2 k))) 106 k (nI (sEnd U 3 k))) (by omega) (((hNR1.zr (by omega)).zr (by omega)).zr (by omega)) hCP.s (((hKM.r (by omega)).r (by omega)).r (by omega)) ((zU_np (by decide)).trans ((zU_np (by decide)).trans ((zU_np (by decide)).trans h2))) ((zU_np (by decide)).trans ((zU_np (by decide)).trans ((zU_np (by decide)).trans h00))) (by omega) _ _ _ hP hS (lv_sub hl [1, 0] rfl)
      exact L_48 (_ + 1) 0 (zU (zU Y_6 102 0 (nI 0)) 102 2 (nI (sEnd U 0 2))) (by omega) ((hNR.zr (by omega)).zr (by omega)) (fun j hj => absurd hj (by omega)) ((hMFr.x.t.p).f (by omega)) zU_eq ((zU_nj (by decide)).trans zU_eq) (Nat.lt_succ_self _) _ _ _ hP hS (lv_sub hl [2, 0] rfl)
    · skip
      refine lv_bipush (v := (-2)) hxx hbb dX6_compile_35 (by decide) ?_
      exact hret _ _ _ _ _ _ dX6_compile_37 (rfl) hP hS (⟨_, hflt, Or.inr ⟨c_4, U, hU, Or.inl ⟨by omega, rfl, hMFr.x.t⟩⟩, zU_eq⟩)
  · skip
    refine lv_aload_n hxx hbb dX6_compile_10 rfl (lv_at hl 1 rfl) ?_
    refine lv_iconst (v := nI 0) hxx hbb dX6_compile_11 (by decide) ?_
    refine zpX6_68 S hK hP hS hB 102 (by decide) zk_102 dX6_compile_12 (fun H locs hP hS => ?_)
    refine lv_iload_n hxx hbb dX6_compile_15 rfl (lv_at hl 0 rfl) ?_
    exact hret _ _ _ _ _ _ dX6_compile_16 (rfl) hP hS (⟨_, hflt, Or.inl ⟨c_4, rfl, KMx.rf.t⟩, zU_eq⟩)
