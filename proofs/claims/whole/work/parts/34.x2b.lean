theorem sAct_0 {S : nY} {c : Nat} (h : S 0 0 = 0) : sAct S c = sAt S c := by unfold sAct; rw [if_neg (by omega), if_neg (by omega), if_neg (by omega), if_pos h]
theorem sAct_x {S : nY} {c : Nat} (h : S 0 0 = 1 ∨ (S 0 0 = 6 ∧ ¬ (48 ≤ c ∧ c ≤ 57))) : sAct S c = sSufx S c := by unfold sAct; rw [if_neg (by omega), if_neg (by omega), if_neg (by omega), if_neg (by omega)]
theorem sAct_5 {S : nY} {c : Nat} (h : S 0 0 = 5) : sAct S c = nU (sSuf (nU S 0 5 (c - 48)) 6 (c - 48)) 0 0 6 := by unfold sAct; rw [if_neg (by omega), if_pos h]
theorem sAct_6 {S : nY} {c : Nat} (h : S 0 0 = 6) (h2 : 48 ≤ c ∧ c ≤ 57) : sAct S c = nU (nU S 3 (S 4 (S 0 1) - 1) (S 0 5 * 10 + (c - 48))) 0 0 1 := by unfold sAct; rw [if_neg (by omega), if_neg (by omega), if_pos ⟨h, h2⟩]
theorem sAct_l {S : nY} {c : Nat} (h : S 0 0 = 2 ∨ S 0 0 = 3 ∨ S 0 0 = 4) (h2 : 97 ≤ c ∧ c ≤ 122) : sAct S c = nU (nU S 0 3 (S 0 3 ||| 2 ^ (c - 97))) 0 0 4 := by unfold sAct sSet; rw [if_pos h, if_pos h2]
theorem sAct_o {S : nY} {c : Nat} (h : S 0 0 = 2 ∨ S 0 0 = 3 ∨ S 0 0 = 4) (h2 : c = 94) : sAct S c = nU (nU S 0 4 1) 0 0 3 := by unfold sAct sSet; rw [if_pos h, if_neg (by omega), if_pos h2]
theorem sAct_e {S : nY} {c : Nat} (h : S 0 0 = 2 ∨ S 0 0 = 3 ∨ S 0 0 = 4) (h2 : c = 93) : sAct S c = sAtom S (if S 0 4 = 0 then S 0 3 else cmask (S 0 3)) := by unfold sAct sSet; rw [if_pos h, if_neg (by omega), if_neg (by omega)]
def sNew (T : nY) : nY := sBeg (nU (nU T 0 2 0) 0 1 0)
theorem sNew_G0 {T : nY} {nb : Nat} (h : RB nb T) : G0 (sNew T) := by
  obtain ⟨h1, h2, h3, h4, h5, h6⟩ := h
  refine ⟨by simp [sNew, sBeg, nU], by simp [sNew, sBeg, nU], by simp [sNew, sBeg, nU], by simp [sNew, sBeg, nU], by simp [sNew, sBeg, nU], by simp [sNew, sBeg, nU], RB.mk (by simp [sNew, sBeg, nU]) (by simp [sNew, sBeg, nU]) (by simpa [sNew, sBeg, nU] using h3) (by simpa [sNew, sBeg, nU] using h4) (by simpa [sNew, sBeg, nU] using h5) (fun e => ?_)⟩
  have e4 : sNew T 4 e = if e = 0 then 0 else T 4 e := by simp [sNew, sBeg, nU]
  have e5 : sNew T 5 e = if e = 0 then 0 else T 5 e := by simp [sNew, sBeg, nU]
  have e6 : sNew T 6 e = if e = 0 then 0 else T 6 e := by simp [sNew, sBeg, nU]
  have := h6 e
  rw [e4, e5, e6]; split <;> omega
theorem RD.cl {Y : zY} {S : nY} (h : RD Y S) : RD (zU Y 3 4 (nI 0)) (nU S 0 2 0) := by
  obtain ⟨⟨h1, h2, h3, h4, h5⟩, h6, h7⟩ := h
  refine ⟨⟨?_, ?_, ?_, ?_, ?_⟩, fun e he => ?_, by rw [zU_eq, nU_eq], fun n hn => ?_⟩
  · rw [zU_np (by decide), nU_nj (by decide)]; exact h1
  · rw [zU_np (by decide), nU_nj (by decide)]; exact h2
  · rw [zU_np (by decide), nU_nj (by decide)]; exact h3
  · rw [zU_np (by decide), nU_nj (by decide)]; exact h4
  · rw [zU_np (by decide), nU_nj (by decide)]; exact h5
  · rw [zU_np (by decide), zU_np (by decide), zU_np (by decide), nU_np (by decide), nU_np (by decide), nU_np (by decide)]; exact h6 e he
  · rw [nU_eq] at hn; exact absurd hn (Nat.not_lt_zero _)
theorem RB.cl {nb : Nat} {S : nY} (h : RB nb S) : RB nb (nU (nU S 0 2 0) 0 1 0) := by
  obtain ⟨h1, h2, h3, h4, h5, h6⟩ := h
  exact RB.mk (by simp [nU]) (by simp [nU]) (by simpa [nU] using h3) (by simpa [nU] using h4) (by simpa [nU] using h5) (fun e => by rw [nU_np (by decide), nU_np (by decide), nU_np (by decide), nU_np (by decide), nU_np (by decide), nU_np (by decide)]; exact h6 e)
theorem ok_of {S0 U : nY} {ch : Nat → Nat} {n : Nat} {r : Int32} (h : fltR S0 ch n r) (hU : sRun S0 ch n = some U) (hn : r = -1) (hb : n < 2 ^ 31) : okS U := by
  rcases h with ⟨k, S, h1, h2, h3, h4⟩ | ⟨S, h1, h2, h3⟩ | ⟨S, h1, h2, h3⟩
  · rw [sRun_no h2 h3 h1] at hU; cases hU
  · exact absurd (h3.symm.trans hn) (nI_nem1 hb)
  · rw [h1] at hU; cases hU; exact h2
theorem cs_le {s : Nat} (h : s ≤ 6) : cs s ≤ 6 := by unfold cs; (repeat' split) <;> omega
theorem cs_1 {s : Nat} (h : s ≤ 6) : cs s = 1 ↔ s = 1 := by unfold cs; (repeat' split) <;> omega
theorem cs_3 {s : Nat} (h : s ≤ 6) : cs s = 3 ↔ s = 6 := by unfold cs; (repeat' split) <;> omega
/-- the reader holds some state -/
def XR (Y : zY) : Prop := ∃ U, RD Y U ∧ RB 190 U
/-- but for the reader, what was typed is forgotten -/
def KC (Y Z : zY) : Prop := (∀ q, q ≠ 0 → (q < 2 ∨ 10 < q) → Z q = Y q) ∧ ∀ k, k ≠ 1 → Z 0 k = Y 0 k
/-- also but for the pattern -/
def KCp (Y Z : zY) : Prop := (∀ q, q ≠ 0 → q ≠ 18 → (q < 2 ∨ 15 < q) → Z q = Y q) ∧ (∀ k, k ≠ 1 → k ≠ 8 → k ≠ 9 → Z 0 k = Y 0 k) ∧ ∀ k, k ≠ 2 → Z 18 k = Y 18 k
theorem KC_of {Y Z : zY} {v : Int32} (h : KR Y Z) : KC Y (zU Z 0 1 v) := ⟨fun q a b => (zU_row a).trans (h q b), fun k a => (zU_nj a).trans (congrFun (h 0 (by omega)) k)⟩
theorem KCp_of {Y Z X : zY} {v a b c : Int32} (h : KR Y Z) (g : ∀ q, (q < 11 ∨ 15 < q) → X q = zU Z 0 1 v q) : KCp Y (zU (zU (zU X 18 2 a) 0 8 b) 0 9 c) := by
  refine ⟨fun q h1 h2 h3 => ?_, fun k h1 h2 h3 => ?_, fun k h1 => ?_⟩
  · rw [zU_row h1, zU_row h1, zU_row h2, g q (by omega), zU_row h1]; exact h q (by omega)
  · rw [zU_nj h3, zU_nj h2, zU_np (by decide), g 0 (by omega), zU_nj h1]; exact congrFun (h 0 (by omega)) k
  · rw [zU_np (by decide), zU_np (by decide), zU_nj h1, g 18 (by omega), zU_np (by decide)]; exact congrFun (h 18 (by omega)) k
theorem XP_zu0 {Y : zY} {v : Int32} {nn j : Nat} {kd lf rt : Nat → Nat} (h : XP Y 3 nn kd lf rt) : XP (zU Y 0 j v) 3 nn kd lf rt := by
  unfold XP at *; rw [zU_row (by decide), zU_row (by decide), zU_row (by decide), zU_row (by decide), zU_row (by decide)]; exact h
theorem XP_zz {X : zY} {a b c : Int32} {nn : Nat} {kd lf rt : Nat → Nat} (h : XP X 11 nn kd lf rt) : XP (zU (zU (zU X 18 2 a) 0 8 b) 0 9 c) 11 nn kd lf rt := by
  unfold XP at *
  rw [zU_row (by decide), zU_row (by decide), zU_row (by decide), zU_row (by decide), zU_row (by decide), zU_row (by decide), zU_row (by decide), zU_row (by decide), zU_row (by decide), zU_row (by decide), zU_row (by decide), zU_row (by decide), zU_row (by decide), zU_row (by decide), zU_row (by decide)]; exact h
theorem XR.zu {Y : zY} {a j : Nat} {v : Int32} (h : XR Y) (ha : a < 2 ∨ 10 < a) : XR (zU Y a j v) := by
  obtain ⟨U, ⟨h1, h2, h3⟩, hB⟩ := h
  refine ⟨U, ⟨?_, ?_, ?_⟩, hB⟩
  · rw [zU_row (by omega)]; exact h1
  · rw [zU_row (by omega), zU_row (by omega), zU_row (by omega)]; exact h2
  · unfold DR; rw [zU_row (by omega), zU_row (by omega), zU_row (by omega), zU_row (by omega), zU_row (by omega)]; exact h3
theorem XR.rows {Y Z : zY} (h : XR Y) (e : ∀ q, 2 ≤ q → q ≤ 10 → Z q = Y q) : XR Z := by
  obtain ⟨U, ⟨h1, h2, h3⟩, hB⟩ := h
  refine ⟨U, ⟨?_, ?_, ?_⟩, hB⟩
  · rw [e 2 (by decide) (by decide)]; exact h1
  · rw [e 8 (by decide) (by decide), e 9 (by decide) (by decide), e 10 (by decide) (by decide)]; exact h2
  · unfold DR; rw [e 3 (by decide) (by decide), e 4 (by decide) (by decide), e 5 (by decide) (by decide), e 6 (by decide) (by decide), e 7 (by decide) (by decide)]; exact h3
theorem DR.xp {Y : zY} {S : nY} (h : DR Y S) (hn : S 0 2 ≤ 24) : XP Y 3 (S 0 2) (S 1) (S 2) (S 3) := ⟨h.1, fun n hn2 => h.2 n hn2 (by omega)⟩
set_option maxHeartbeats 4000000 in
set_option maxRecDepth 100000 in
theorem kX2_take (l : Launch) (G : zG) (A : Nat → Nat) (Y : zY) (k : Nat) (T9 : nY) (nb : Nat) (hR : RD Y T9) (hBd : RB nb T9) (hnb : nb ≤ 180) (hc : k < 65536) (h06 : T9 0 0 ≤ 6) (hl1 : T9 0 0 = 1 ∨ T9 0 0 = 5 ∨ T9 0 0 = 6 → 1 ≤ T9 4 (T9 0 1)) (hl6 : T9 0 0 = 6 → T9 1 (T9 4 (T9 0 1) - 1) = 6) : ZI l yX2_take cX2_take 2 (.boolean) 4 89 G A Y [.ref (A 2), .int (nI k)] (fun r Y' => (nx (T9 0 0) k (T9 0 1) ≠ none ∧ r = nI 1 ∧ RD Y' (sAct T9 k) ∧ KR Y Y') ∨ (nx (T9 0 0) k (T9 0 1) = none ∧ r = nI 0 ∧ ∃ U nc, nc ≤ 181 ∧ RD Y' U ∧ RB nc U ∧ KR Y Y')) := by
  refine ZI.enter (by decide) (Nat.le_of_ble_eq_true rfl) ?_
  intro p e s m args below meth c R Q hxx hbb S hK hfr hlo hret H ls hP hS hl
  have hB : ∀ q, zAd A q → zAd A q := fun _ h => h
  have hl : lv_has ls 2 [(0, .ref (A 2)), (1, .int (nI k))] := hl
  have S : CallFix p m c cX2_take 2 s args wsL_law RX2 := S
  have hnb8 := hnb
  have hnb : nb ≤ 190 := by omega
  have hd6 := hBd.1
  have hcn := hBd.2.1
  have hsl := hBd.2.2.1
  have hbe := hBd.2.2.2.2.2 (T9 0 1)
  rcases (show T9 0 0 = 0 ∨ T9 0 0 = 1 ∨ T9 0 0 = 2 ∨ T9 0 0 = 3 ∨ T9 0 0 = 4 ∨ T9 0 0 = 5 ∨ T9 0 0 = 6 by omega) with hs | hs | hs | hs | hs | hs | hs
  · skip
    refine lv_aload_n hxx hbb dX2_take_0 rfl (lv_at hl 0 rfl) ?_
    refine zgX2_18 S hK hP 2 (by decide) zk_2 (v := nI 0) (hR.1.1.trans (by rw [hs]; rfl)) dX2_take_1 ?_
    refine ztabIn S (k := 0) (off := 44) (tgt := 48) rfl dX2_take_4 (by decide) (by decide) rfl (by decide) ?_
    refine lv_aload_n hxx hbb dX2_take_48 rfl (lv_at hl 0 rfl) ?_
    refine lv_iload_n hxx hbb dX2_take_49 rfl (lv_at hl 1 rfl) ?_
    refine ZI.callV S hK hP hS hB (kX2_takeAtom l G A Y k T9 nb hR hBd hnb hc) zwX2_61 zdX2_takeAtom rfl ⟨Nat.le_trans (by decide) hfr, Nat.le_trans (by decide) hlo⟩ (by decide) (zcK1 zk_2) rfl rfl (Nat.le_of_ble_eq_true rfl) hl.1 dX2_take_50 ⟨Nat.zero_le _, Nat.zero_le _⟩ (fun r_1 Y_2 H locs hq_3 hP hS => ?_)
    rcases hq_3 with ⟨hb_4, hr9, hR9, hK9⟩ | ⟨hb_4, hr9, hY9⟩
    · skip
      subst hr9
      exact hret _ _ _ _ _ _ dX2_take_53 (by first | rfl | decide) hP hS (Or.inl ⟨by rw [hs]; exact fun z => nx_0.mp z hb_4, rfl, by rw [sAct_0 hs]; exact hR9, hK9⟩)
    · skip
      subst hr9
      rw [hY9] at hP
      exact hret _ _ _ _ _ _ dX2_take_53 (by first | rfl | decide) hP hS (Or.inr ⟨by rw [hs]; exact nx_0.mpr hb_4, rfl, T9, nb, by omega, hR, hBd, KR.rf⟩)
  · skip
    have hlv := hl1 (by omega)
    refine lv_aload_n hxx hbb dX2_take_0 rfl (lv_at hl 0 rfl) ?_
    refine zgX2_18 S hK hP 2 (by decide) zk_2 (v := nI 1) (hR.1.1.trans (by rw [hs]; rfl)) dX2_take_1 ?_
    refine ztabIn S (k := 1) (off := 128) (tgt := 132) rfl dX2_take_4 (by decide) (by decide) rfl (by decide) ?_
    refine lv_aload_n hxx hbb dX2_take_132 rfl (lv_at hl 0 rfl) ?_
    refine lv_iload_n hxx hbb dX2_take_133 rfl (lv_at hl 1 rfl) ?_
    refine ZI.callV S hK hP hS hB (kX2_takeAfterItem l G A Y k T9 nb hR hBd hnb8 hc hlv) zwX2_70 zdX2_takeAfterItem rfl ⟨Nat.le_trans (by decide) hfr, Nat.le_trans (by decide) hlo⟩ (by decide) (zcK1 zk_2) rfl rfl (Nat.le_of_ble_eq_true rfl) hl.1 dX2_take_134 ⟨Nat.zero_le _, Nat.zero_le _⟩ (fun r_5 Y_6 H locs hq_7 hP hS => ?_)
    rcases hq_7 with ⟨hb_8, hr9, hR9, hK9⟩ | ⟨hb_8, hr9, hY9⟩
    · skip
      subst hr9
      exact hret _ _ _ _ _ _ dX2_take_137 (by first | rfl | decide) hP hS (Or.inl ⟨by rw [hs]; exact fun z => (nx_1 (Or.inl rfl)).mp z hb_8, rfl, by rw [sAct_x (Or.inl hs)]; exact hR9, hK9⟩)
    · skip
      subst hr9
      exact hret _ _ _ _ _ _ dX2_take_137 (by first | rfl | decide) hP hS (Or.inr ⟨by rw [hs]; exact (nx_1 (Or.inl rfl)).mpr hb_8, rfl, sItem T9, nb + 1, by omega, hY9.1, hBd.item (by omega), hY9.2⟩)
  · skip
    refine lv_aload_n hxx hbb dX2_take_0 rfl (lv_at hl 0 rfl) ?_
    refine zgX2_18 S hK hP 2 (by decide) zk_2 (v := nI 4) (hR.1.1.trans (by rw [hs]; rfl)) dX2_take_1 ?_
    refine ztabIn S (k := 4) (off := 78) (tgt := 82) rfl dX2_take_4 (by decide) (by decide) rfl (by decide) ?_
    refine lv_aload_n hxx hbb dX2_take_82 rfl (lv_at hl 0 rfl) ?_
    refine lv_iload_n hxx hbb dX2_take_83 rfl (lv_at hl 1 rfl) ?_
    refine ZI.callV S hK hP hS hB (kX2_takeOthersSign l G A Y k T9 nb hR hBd hnb hc) zwX2_73 zdX2_takeOthersSign rfl ⟨Nat.le_trans (by decide) hfr, Nat.le_trans (by decide) hlo⟩ (by decide) (zcK1 zk_2) rfl rfl (Nat.le_of_ble_eq_true rfl) hl.1 dX2_take_84 ⟨Nat.zero_le _, Nat.zero_le _⟩ (fun r_9 Y_10 H locs hq_11 hP hS => ?_)
    rcases hq_11 with ⟨hb_12, hr9, hR9, hK9⟩ | ⟨hb_12, hr9, hY9⟩
    · skip
      subst hr9
      refine zif_ne (tgt := 98) S (by omega) dX2_take_87 (by decide) (fun c_13 => ?_) (fun c_13 => ?_)
      · skip
        refine lv_iconst (v := nI 1) hxx hbb dX2_take_98 (by decide) ?_
        refine lv_goto (tgt := 103) hxx hbb dX2_take_99 (by decide) ?_
        exact hret _ _ _ _ _ _ dX2_take_103 (by first | rfl | decide) hP hS (Or.inl ⟨by rw [hs]; exact fun z => nx_2.mp z (Or.inr hb_12), rfl, by rw [sAct_o (by omega) hb_12]; exact hR9, hK9⟩)
      · skip
        exact absurd c_13 (by decide)
    · skip
      subst hr9
      rw [hY9] at hP
      refine zif_ne (tgt := 98) S (by omega) dX2_take_87 (by decide) (fun c_14 => ?_) (fun c_14 => ?_)
      · skip
        exact absurd c_14 (by decide)
      · skip
        refine lv_aload_n hxx hbb dX2_take_90 rfl (lv_at hl 0 rfl) ?_
        refine lv_iload_n hxx hbb dX2_take_91 rfl (lv_at hl 1 rfl) ?_
        refine ZI.callV S hK hP hS hB (kX2_takeSetLetter l G A Y k T9 nb hR hBd hnb hc) zwX2_76 zdX2_takeSetLetter rfl ⟨Nat.le_trans (by decide) hfr, Nat.le_trans (by decide) hlo⟩ (by decide) (zcK1 zk_2) rfl rfl (Nat.le_of_ble_eq_true rfl) hl.1 dX2_take_92 ⟨Nat.zero_le _, Nat.zero_le _⟩ (fun r_15 Y_16 H locs hq_17 hP hS => ?_)
        rcases hq_17 with ⟨hb_18, hr9, hR9, hK9⟩ | ⟨hb_18, hr9, hY9⟩
        · skip
          subst hr9
          refine zif_eq (tgt := 102) S (by omega) dX2_take_95 (by decide) (fun c_19 => ?_) (fun c_19 => ?_)
          · skip
            exact absurd c_19 (by decide)
          · skip
            refine lv_iconst (v := nI 1) hxx hbb dX2_take_98 (by decide) ?_
            refine lv_goto (tgt := 103) hxx hbb dX2_take_99 (by decide) ?_
            exact hret _ _ _ _ _ _ dX2_take_103 (by first | rfl | decide) hP hS (Or.inl ⟨by rw [hs]; exact fun z => nx_2.mp z (Or.inl hb_18), rfl, by rw [sAct_l (by omega) hb_18]; exact hR9, hK9⟩)
        · skip
          subst hr9
          rw [hY9] at hP
          refine zif_eq (tgt := 102) S (by omega) dX2_take_95 (by decide) (fun c_20 => ?_) (fun c_20 => ?_)
          · skip
            refine lv_iconst (v := nI 0) hxx hbb dX2_take_102 (by decide) ?_
            exact hret _ _ _ _ _ _ dX2_take_103 (by first | rfl | decide) hP hS (Or.inr ⟨by rw [hs]; exact nx_2.mpr (by omega), rfl, T9, nb, by omega, hR, hBd, KR.rf⟩)
          · skip
            exact absurd c_20 (by decide)
  · skip
    refine lv_aload_n hxx hbb dX2_take_0 rfl (lv_at hl 0 rfl) ?_
    refine zgX2_18 S hK hP 2 (by decide) zk_2 (v := nI 5) (hR.1.1.trans (by rw [hs]; rfl)) dX2_take_1 ?_
    refine ztabIn S (k := 5) (off := 100) (tgt := 104) rfl dX2_take_4 (by decide) (by decide) rfl (by decide) ?_
    refine lv_aload_n hxx hbb dX2_take_104 rfl (lv_at hl 0 rfl) ?_
    refine lv_iload_n hxx hbb dX2_take_105 rfl (lv_at hl 1 rfl) ?_
    refine ZI.callV S hK hP hS hB (kX2_takeSetLetter l G A Y k T9 nb hR hBd hnb hc) zwX2_76 zdX2_takeSetLetter rfl ⟨Nat.le_trans (by decide) hfr, Nat.le_trans (by decide) hlo⟩ (by decide) (zcK1 zk_2) rfl rfl (Nat.le_of_ble_eq_true rfl) hl.1 dX2_take_106 ⟨Nat.zero_le _, Nat.zero_le _⟩ (fun r_21 Y_22 H locs hq_23 hP hS => ?_)
    rcases hq_23 with ⟨hb_24, hr9, hR9, hK9⟩ | ⟨hb_24, hr9, hY9⟩
    · skip
      subst hr9
      exact hret _ _ _ _ _ _ dX2_take_109 (by first | rfl | decide) hP hS (Or.inl ⟨by rw [hs]; exact fun z => nx_3.mp z hb_24, rfl, by rw [sAct_l (by omega) hb_24]; exact hR9, hK9⟩)
    · skip
      subst hr9
      rw [hY9] at hP
      exact hret _ _ _ _ _ _ dX2_take_109 (by first | rfl | decide) hP hS (Or.inr ⟨by rw [hs]; exact nx_3.mpr hb_24, rfl, T9, nb, by omega, hR, hBd, KR.rf⟩)
  · skip
    refine lv_aload_n hxx hbb dX2_take_0 rfl (lv_at hl 0 rfl) ?_
    refine zgX2_18 S hK hP 2 (by decide) zk_2 (v := nI 6) (hR.1.1.trans (by rw [hs]; rfl)) dX2_take_1 ?_
    refine ztabIn S (k := 6) (off := 106) (tgt := 110) rfl dX2_take_4 (by decide) (by decide) rfl (by decide) ?_
    refine lv_aload_n hxx hbb dX2_take_110 rfl (lv_at hl 0 rfl) ?_
    refine lv_iload_n hxx hbb dX2_take_111 rfl (lv_at hl 1 rfl) ?_
    refine ZI.callV S hK hP hS hB (kX2_takeSetLetter l G A Y k T9 nb hR hBd hnb hc) zwX2_76 zdX2_takeSetLetter rfl ⟨Nat.le_trans (by decide) hfr, Nat.le_trans (by decide) hlo⟩ (by decide) (zcK1 zk_2) rfl rfl (Nat.le_of_ble_eq_true rfl) hl.1 dX2_take_112 ⟨Nat.zero_le _, Nat.zero_le _⟩ (fun r_25 Y_26 H locs hq_27 hP hS => ?_)
    rcases hq_27 with ⟨hb_28, hr9, hR9, hK9⟩ | ⟨hb_28, hr9, hY9⟩
    · skip
      subst hr9
      refine zif_ne (tgt := 126) S (by omega) dX2_take_115 (by decide) (fun c_29 => ?_) (fun c_29 => ?_)
      · skip
        refine lv_iconst (v := nI 1) hxx hbb dX2_take_126 (by decide) ?_
        refine lv_goto (tgt := 131) hxx hbb dX2_take_127 (by decide) ?_
        exact hret _ _ _ _ _ _ dX2_take_131 (by first | rfl | decide) hP hS (Or.inl ⟨by rw [hs]; exact fun z => nx_4.mp z (Or.inl hb_28), rfl, by rw [sAct_l (by omega) hb_28]; exact hR9, hK9⟩)
      · skip
        exact absurd c_29 (by decide)
    · skip
      subst hr9
      rw [hY9] at hP
      refine zif_ne (tgt := 126) S (by omega) dX2_take_115 (by decide) (fun c_30 => ?_) (fun c_30 => ?_)
      · skip
        exact absurd c_30 (by decide)
      · skip
        refine lv_aload_n hxx hbb dX2_take_118 rfl (lv_at hl 0 rfl) ?_
        refine lv_iload_n hxx hbb dX2_take_119 rfl (lv_at hl 1 rfl) ?_
        refine ZI.callV S hK hP hS hB (kX2_takeSetEnd l G A Y k T9 nb hR hBd hnb hc) zwX2_79 zdX2_takeSetEnd rfl ⟨Nat.le_trans (by decide) hfr, Nat.le_trans (by decide) hlo⟩ (by decide) (zcK1 zk_2) rfl rfl (Nat.le_of_ble_eq_true rfl) hl.1 dX2_take_120 ⟨Nat.zero_le _, Nat.zero_le _⟩ (fun r_31 Y_32 H locs hq_33 hP hS => ?_)
        rcases hq_33 with ⟨hb_34, hr9, hR9, hK9⟩ | ⟨hb_34, hr9, hY9⟩
        · skip
          subst hr9
          refine zif_eq (tgt := 130) S (by omega) dX2_take_123 (by decide) (fun c_35 => ?_) (fun c_35 => ?_)
          · skip
            exact absurd c_35 (by decide)
          · skip
            refine lv_iconst (v := nI 1) hxx hbb dX2_take_126 (by decide) ?_
            refine lv_goto (tgt := 131) hxx hbb dX2_take_127 (by decide) ?_
            exact hret _ _ _ _ _ _ dX2_take_131 (by first | rfl | decide) hP hS (Or.inl ⟨by rw [hs]; exact fun z => nx_4.mp z (Or.inr hb_34), rfl, by rw [sAct_e (by omega) hb_34]; exact hR9, hK9⟩)
        · skip
          subst hr9
          rw [hY9] at hP
          refine zif_eq (tgt := 130) S (by omega) dX2_take_123 (by decide) (fun c_36 => ?_) (fun c_36 => ?_)
          · skip
            refine lv_iconst (v := nI 0) hxx hbb dX2_take_130 (by decide) ?_
            exact hret _ _ _ _ _ _ dX2_take_131 (by first | rfl | decide) hP hS (Or.inr ⟨by rw [hs]; exact nx_4.mpr (by omega), rfl, T9, nb, by omega, hR, hBd, KR.rf⟩)
          · skip
            exact absurd c_36 (by decide)
  · skip
    have hlv := hl1 (by omega)
    refine lv_aload_n hxx hbb dX2_take_0 rfl (lv_at hl 0 rfl) ?_
    refine zgX2_18 S hK hP 2 (by decide) zk_2 (v := nI 2) (hR.1.1.trans (by rw [hs]; rfl)) dX2_take_1 ?_
    refine ztabIn S (k := 2) (off := 50) (tgt := 54) rfl dX2_take_4 (by decide) (by decide) rfl (by decide) ?_
    refine lv_aload_n hxx hbb dX2_take_54 rfl (lv_at hl 0 rfl) ?_
    refine lv_iload_n hxx hbb dX2_take_55 rfl (lv_at hl 1 rfl) ?_
    refine ZI.callV S hK hP hS hB (kX2_takeFirstDigit l G A Y k T9 nb hR hBd hnb hc hlv) zwX2_64 zdX2_takeFirstDigit rfl ⟨Nat.le_trans (by decide) hfr, Nat.le_trans (by decide) hlo⟩ (by decide) (zcK1 zk_2) rfl rfl (Nat.le_of_ble_eq_true rfl) hl.1 dX2_take_56 ⟨Nat.zero_le _, Nat.zero_le _⟩ (fun r_37 Y_38 H locs hq_39 hP hS => ?_)
    rcases hq_39 with ⟨hb_40, hr9, hR9, hK9⟩ | ⟨hb_40, hr9, hY9⟩
    · skip
      subst hr9
      exact hret _ _ _ _ _ _ dX2_take_59 (by first | rfl | decide) hP hS (Or.inl ⟨by rw [hs]; exact fun z => nx_5.mp z hb_40, rfl, by rw [sAct_5 hs]; exact hR9, hK9⟩)
    · skip
      subst hr9
      rw [hY9] at hP
      exact hret _ _ _ _ _ _ dX2_take_59 (by first | rfl | decide) hP hS (Or.inr ⟨by rw [hs]; exact nx_5.mpr hb_40, rfl, T9, nb, by omega, hR, hBd, KR.rf⟩)
  · skip
    have hlv := hl1 (by omega)
    have h6 := hl6 hs
    refine lv_aload_n hxx hbb dX2_take_0 rfl (lv_at hl 0 rfl) ?_
    refine zgX2_18 S hK hP 2 (by decide) zk_2 (v := nI 3) (hR.1.1.trans (by rw [hs]; rfl)) dX2_take_1 ?_
    refine ztabIn S (k := 3) (off := 56) (tgt := 60) rfl dX2_take_4 (by decide) (by decide) rfl (by decide) ?_
    refine lv_aload_n hxx hbb dX2_take_60 rfl (lv_at hl 0 rfl) ?_
    refine lv_iload_n hxx hbb dX2_take_61 rfl (lv_at hl 1 rfl) ?_
    refine ZI.callV S hK hP hS hB (kX2_takeSecondDigit l G A Y k T9 nb hR hBd hnb hc hlv h6) zwX2_67 zdX2_takeSecondDigit rfl ⟨Nat.le_trans (by decide) hfr, Nat.le_trans (by decide) hlo⟩ (by decide) (zcK1 zk_2) rfl rfl (Nat.le_of_ble_eq_true rfl) hl.1 dX2_take_62 ⟨Nat.zero_le _, Nat.zero_le _⟩ (fun r_41 Y_42 H locs hq_43 hP hS => ?_)
    rcases hq_43 with ⟨hb_44, hr9, hR9, hK9⟩ | ⟨hb_44, hr9, hY9⟩
    · skip
      subst hr9
      refine zif_ne (tgt := 76) S (by omega) dX2_take_65 (by decide) (fun c_45 => ?_) (fun c_45 => ?_)
      · skip
        refine lv_iconst (v := nI 1) hxx hbb dX2_take_76 (by decide) ?_
        refine lv_goto (tgt := 81) hxx hbb dX2_take_77 (by decide) ?_
        exact hret _ _ _ _ _ _ dX2_take_81 (by first | rfl | decide) hP hS (Or.inl ⟨by rw [hs]; exact nx_6 hb_44, rfl, by rw [sAct_6 hs hb_44]; exact hR9, hK9⟩)
      · skip
        exact absurd c_45 (by decide)
    · skip
      subst hr9
      rw [hY9] at hP
      refine zif_ne (tgt := 76) S (by omega) dX2_take_65 (by decide) (fun c_46 => ?_) (fun c_46 => ?_)
      · skip
        exact absurd c_46 (by decide)
      · skip
        refine lv_aload_n hxx hbb dX2_take_68 rfl (lv_at hl 0 rfl) ?_
        refine lv_iload_n hxx hbb dX2_take_69 rfl (lv_at hl 1 rfl) ?_
        refine ZI.callV S hK hP hS hB (kX2_takeAfterItem l G A Y k T9 nb hR hBd hnb8 hc hlv) zwX2_70 zdX2_takeAfterItem rfl ⟨Nat.le_trans (by decide) hfr, Nat.le_trans (by decide) hlo⟩ (by decide) (zcK1 zk_2) rfl rfl (Nat.le_of_ble_eq_true rfl) hl.1 dX2_take_70 ⟨Nat.zero_le _, Nat.zero_le _⟩ (fun r_47 Y_48 H locs hq_49 hP hS => ?_)
        rcases hq_49 with ⟨hb_50, hr9, hR9, hK9⟩ | ⟨hb_50, hr9, hY9⟩
        · skip
          subst hr9
          refine zif_eq (tgt := 80) S (by omega) dX2_take_73 (by decide) (fun c_51 => ?_) (fun c_51 => ?_)
          · skip
            exact absurd c_51 (by decide)
          · skip
            refine lv_iconst (v := nI 1) hxx hbb dX2_take_76 (by decide) ?_
            refine lv_goto (tgt := 81) hxx hbb dX2_take_77 (by decide) ?_
            exact hret _ _ _ _ _ _ dX2_take_81 (by first | rfl | decide) hP hS (Or.inl ⟨by rw [hs]; exact fun z => (nx_1 (Or.inr ⟨rfl, hb_44⟩)).mp z hb_50, rfl, by rw [sAct_x (Or.inr ⟨hs, hb_44⟩)]; exact hR9, hK9⟩)
        · skip
          subst hr9
          refine zif_eq (tgt := 80) S (by omega) dX2_take_73 (by decide) (fun c_52 => ?_) (fun c_52 => ?_)
          · skip
            refine lv_iconst (v := nI 0) hxx hbb dX2_take_80 (by decide) ?_
            exact hret _ _ _ _ _ _ dX2_take_81 (by first | rfl | decide) hP hS (Or.inr ⟨by rw [hs]; exact (nx_1 (Or.inr ⟨rfl, hb_44⟩)).mpr hb_50, rfl, sItem T9, nb + 1, by omega, hY9.1, hBd.item (by omega), hY9.2⟩)
          · skip
            exact absurd c_52 (by decide)

set_option maxHeartbeats 4000000 in
set_option maxRecDepth 100000 in
theorem kX2_read (l : Launch) (G : zG) (A : Nat → Nat) (Y : zY) (n : Nat) (ch : Nat → Nat) (T9 : nY) (hR : RD Y T9) (hBd : RB 190 T9) (hn : n ≤ 40) (hch : ∀ k, k < n → Y 1 k = nI (ch k) ∧ ch k < 65536) : ZI l yX2_read cX2_read 4 (.int) 5 110 G A Y [.ref (A 2), .ref (A 1), .int (nI n)] (fun r Y' => fltR (sNew T9) ch n r ∧ KR Y Y' ∧ XR Y' ∧ (r = -1 → ∃ U, sRun (sNew T9) ch n = some U ∧ DR Y' (sEnd U))) := by
  refine ZI.enter (by decide) (Nat.le_of_ble_eq_true rfl) ?_
  intro p e s m args below meth c R Q hxx hbb S hK hfr hlo hret H ls hP hS hl
  have hB : ∀ q, zAd A q → zAd A q := fun _ h => h
  have hl : lv_has ls 4 [(0, .ref (A 2)), (1, .ref (A 1)), (2, .int (nI n))] := hl
  have S : CallFix p m c cX2_read 4 s args wsL_law RX2 := S
  have hG := sNew_G0 hBd
  refine lv_aload_n hxx hbb dX2_read_0 rfl (lv_at hl 0 rfl) ?_
  refine zgX2_12 S hK hP 2 (by decide) zk_2 dX2_read_1 ?_
  refine ZV.callVN S hK hP hS hB (kX4_clear l G A Y 3 zPP_3) (znX2_45) zwX2_45 zdX4_clear rfl ⟨Nat.le_trans (by decide) hfr, Nat.le_trans (by decide) hlo⟩ (by decide) (zcK2 zk_3) rfl rfl (Nat.le_of_ble_eq_true rfl) hl.1 dX2_read_4 ⟨Nat.zero_le _, Nat.zero_le _⟩ (fun Y_2 H locs hq_3 hP hS => ?_)
  rw [hq_3] at hP
  refine lv_aload_n hxx hbb dX2_read_7 rfl (lv_at hl 0 rfl) ?_
  refine lv_iconst (v := nI 0) hxx hbb dX2_read_8 (by decide) ?_
  refine zpX2_22 S hK hP hS hB 2 (by decide) zk_2 dX2_read_9 (fun H locs hP hS => ?_)
  refine lv_aload_n hxx hbb dX2_read_12 rfl (lv_at hl 0 rfl) ?_
  refine ZV.callV S hK hP hS hB (kX2_beginBracket l G A (zU (zU Y 3 4 (nI 0)) 2 2 (nI 0)) (nU (nU T9 0 2 0) 0 1 0) 190 hR.cl.dp hBd.cl (by omega)) zwX2_48 zdX2_beginBracket rfl ⟨Nat.le_trans (by decide) hfr, Nat.le_trans (by decide) hlo⟩ (by decide) (zcK1 zk_2) rfl rfl (Nat.le_of_ble_eq_true rfl) hl.1 dX2_read_13 ⟨Nat.zero_le _, Nat.zero_le _⟩ (fun Y_5 H locs hq_6 hP hS => ?_)
  obtain ⟨hR1, hKr1⟩ := hq_6
  refine lv_iconst (v := nI 0) hxx hbb dX2_read_16 (by decide) ?_
  refine lv_istore_n (lv' := [(3, .int (nI 0)), (0, .ref (A 2)), (1, .ref (A 1)), (2, .int (nI n))]) hxx hbb dX2_read_17 rfl hl (by decide) rfl (fun ls hl => ?_)
  have L_18 : ∀ (N_18 : Nat) (k : Nat) (T8 : nY) (Y1 : zY) (hk : k ≤ n) (hrun : sRun (sNew T9) ch k = some T8) (hR8 : RD Y1 T8) (hKR : KR Y Y1), n - k < N_18 → ∀ (H : Heap) (locs : List Loc) (ls : Array Slot), va_P G.1 vwCl (zW G A Y1) H → va_S (zAd A) s.heap H locs → lv_has ls 4 [(0, .ref (A 2)), (1, .ref (A 1)), (2, .int (nI n)), (3, .int (nI k))] → W p l e R s m args below meth c H locs 0 0 Q (F0 m 18 ls []) := by
    intro N_18
    induction N_18 with
    | zero => intro k T8 Y1 hk hrun hR8 hKR hm; exact absurd hm (Nat.not_lt_zero _)
    | succ N_18 ih_18 =>
      intro k T8 Y1 hk hrun hR8 hKR hm_18 H locs ls hP hS hl
      have hRI := hG.run k (by omega) T8 hrun
      have h06 := hRI.2.1
      have hd6 := hRI.1.1
      have hl1 : T8 0 0 = 1 ∨ T8 0 0 = 5 ∨ T8 0 0 = 6 → 1 ≤ T8 4 (T8 0 1) := fun g => by obtain ⟨q, W, -, h, -⟩ := hRI.2.2.1 g; exact h.1
      have hl6 := hRI.2.2.2.2
      refine lv_iload_n hxx hbb dX2_read_18 rfl (lv_at hl 3 rfl) ?_
      refine lv_iload_n hxx hbb dX2_read_19 rfl (lv_at hl 2 rfl) ?_
      refine zcmp_ge (tgt := 47) S (by omega) (by omega) dX2_read_20 (by decide) (fun c_7 => ?_) (fun c_7 => ?_)
      · skip
        have hrn : sRun (sNew T9) ch n = some T8 := by rw [show n = k by omega]; exact hrun
        have hcs := cs_le h06; have hc1 := cs_1 h06; have hc3 := cs_3 h06
        refine lv_aload_n hxx hbb dX2_read_47 rfl (lv_at hl 0 rfl) ?_
        refine zgX2_22 S hK hP 2 (by decide) zk_2 (v := nI (T8 0 1)) (hR8.1.2.1) dX2_read_48 ?_
        refine zif_gt (tgt := 70) S (by omega) dX2_read_51 (by decide) (fun c_8 => ?_) (fun c_8 => ?_)
        · skip
          refine lv_iload_n hxx hbb dX2_read_70 rfl (lv_at hl 2 rfl) ?_
          exact hret _ _ _ _ _ _ dX2_read_71 (rfl) hP hS (⟨Or.inr (Or.inl ⟨T8, hrn, fun z => by unfold okS at z; omega, rfl⟩), hKR, ⟨T8, hR8, hRI.1.mono (by omega)⟩, fun z => absurd z (nI_nem1 (by omega))⟩)
        · skip
          refine lv_aload_n hxx hbb dX2_read_54 rfl (lv_at hl 0 rfl) ?_
          refine zgX2_18 S hK hP 2 (by decide) zk_2 (v := nI (cs (T8 0 0))) (hR8.1.1) dX2_read_55 ?_
          refine lv_iconst (v := nI 1) hxx hbb dX2_read_58 (by decide) ?_
          refine zcmp_eq (tgt := 72) S (by omega) (by omega) dX2_read_59 (by decide) (fun c_9 => ?_) (fun c_9 => ?_)
          · skip
            have hlv := hl1 (by omega)
            refine lv_aload_n hxx hbb dX2_read_72 rfl (lv_at hl 0 rfl) ?_
            refine ZV.callV S hK hP hS hB (kX2_endItem l G A Y1 T8 (2 * k) hR8 hRI.1 (by omega) hlv) zwX2_55 zdX2_endItem rfl ⟨Nat.le_trans (by decide) hfr, Nat.le_trans (by decide) hlo⟩ (by decide) (zcK1 zk_2) rfl rfl (Nat.le_of_ble_eq_true rfl) hl.1 dX2_read_73 ⟨Nat.zero_le _, Nat.zero_le _⟩ (fun Y_11 H locs hq_12 hP hS => ?_)
            obtain ⟨hR1, hKr1⟩ := hq_12
            have hR2 := hR1; have hK2 := hKr1
            refine lv_aload_n hxx hbb dX2_read_76 rfl (lv_at hl 0 rfl) ?_
            refine ZV.callV S hK hP hS hB (kX2_endRow l G A Y_11 (sItem T8) (2 * k + 1) hR2 (hRI.1.item (by omega)) (by omega) (by rw [sItem_d (by decide)]; exact sItem_5 hlv)) zwX2_58 zdX2_endRow rfl ⟨Nat.le_trans (by decide) hfr, Nat.le_trans (by decide) hlo⟩ (by decide) (zcK1 zk_2) rfl rfl (Nat.le_of_ble_eq_true rfl) hl.1 dX2_read_77 ⟨Nat.zero_le _, Nat.zero_le _⟩ (fun Y_14 H locs hq_15 hP hS => ?_)
            obtain ⟨hR1, hKr1⟩ := hq_15
            refine lv_iconst (v := (-1)) hxx hbb dX2_read_80 (by decide) ?_
            exact hret _ _ _ _ _ _ dX2_read_81 (rfl) hP hS (⟨Or.inr (Or.inr ⟨T8, hrn, by unfold okS; omega, rfl⟩), (hKR.trans hK2).trans hKr1, ⟨sEnd T8, hR1, ((hRI.1.item (by omega)).row (by omega)).mono (by omega)⟩, fun _ => ⟨T8, hrn, hR1.2.2⟩⟩)
          · skip
            refine lv_aload_n hxx hbb dX2_read_62 rfl (lv_at hl 0 rfl) ?_
            refine zgX2_18 S hK hP 2 (by decide) zk_2 (v := nI (cs (T8 0 0))) (hR8.1.1) dX2_read_63 ?_
            refine lv_iconst (v := nI 3) hxx hbb dX2_read_66 (by decide) ?_
            refine zcmp_eq (tgt := 72) S (by omega) (by omega) dX2_read_67 (by decide) (fun c_16 => ?_) (fun c_16 => ?_)
            · skip
              have hlv := hl1 (by omega)
              refine lv_aload_n hxx hbb dX2_read_72 rfl (lv_at hl 0 rfl) ?_
              refine ZV.callV S hK hP hS hB (kX2_endItem l G A Y1 T8 (2 * k) hR8 hRI.1 (by omega) hlv) zwX2_55 zdX2_endItem rfl ⟨Nat.le_trans (by decide) hfr, Nat.le_trans (by decide) hlo⟩ (by decide) (zcK1 zk_2) rfl rfl (Nat.le_of_ble_eq_true rfl) hl.1 dX2_read_73 ⟨Nat.zero_le _, Nat.zero_le _⟩ (fun Y_18 H locs hq_19 hP hS => ?_)
              obtain ⟨hR1, hKr1⟩ := hq_19
              have hR2 := hR1; have hK2 := hKr1
              refine lv_aload_n hxx hbb dX2_read_76 rfl (lv_at hl 0 rfl) ?_
              refine ZV.callV S hK hP hS hB (kX2_endRow l G A Y_18 (sItem T8) (2 * k + 1) hR2 (hRI.1.item (by omega)) (by omega) (by rw [sItem_d (by decide)]; exact sItem_5 hlv)) zwX2_58 zdX2_endRow rfl ⟨Nat.le_trans (by decide) hfr, Nat.le_trans (by decide) hlo⟩ (by decide) (zcK1 zk_2) rfl rfl (Nat.le_of_ble_eq_true rfl) hl.1 dX2_read_77 ⟨Nat.zero_le _, Nat.zero_le _⟩ (fun Y_21 H locs hq_22 hP hS => ?_)
              obtain ⟨hR1, hKr1⟩ := hq_22
              refine lv_iconst (v := (-1)) hxx hbb dX2_read_80 (by decide) ?_
              exact hret _ _ _ _ _ _ dX2_read_81 (rfl) hP hS (⟨Or.inr (Or.inr ⟨T8, hrn, by unfold okS; omega, rfl⟩), (hKR.trans hK2).trans hKr1, ⟨sEnd T8, hR1, ((hRI.1.item (by omega)).row (by omega)).mono (by omega)⟩, fun _ => ⟨T8, hrn, hR1.2.2⟩⟩)
            · skip
              refine lv_iload_n hxx hbb dX2_read_70 rfl (lv_at hl 2 rfl) ?_
              exact hret _ _ _ _ _ _ dX2_read_71 (rfl) hP hS (⟨Or.inr (Or.inl ⟨T8, hrn, fun z => by unfold okS at z; omega, rfl⟩), hKR, ⟨T8, hR8, hRI.1.mono (by omega)⟩, fun z => absurd z (nI_nem1 (by omega))⟩)
      · skip
        refine lv_iload_n hxx hbb dX2_read_23 rfl (lv_at hl 3 rfl) ?_
        refine lv_aload_n hxx hbb dX2_read_24 rfl (lv_at hl 1 rfl) ?_
        refine zalenC S hK hP 1 40 (by decide) zk_1 zl_1 dX2_read_25 ?_
        refine zcmp_ge (tgt := 47) S (by omega) (by omega) dX2_read_26 (by decide) (fun c_23 => ?_) (fun c_23 => ?_)
        · skip
          exfalso; omega
        · skip
          refine lv_aload_n hxx hbb dX2_read_29 rfl (lv_at hl 0 rfl) ?_
          refine lv_aload_n hxx hbb dX2_read_30 rfl (lv_at hl 1 rfl) ?_
          refine lv_iload_n hxx hbb dX2_read_31 rfl (lv_at hl 3 rfl) ?_
          refine zcaldN S hK hP 1 40 (by decide) zk_1 zl_1 (by omega) (v := nI (ch k)) ((congrFun (hKR 1 (by omega)) _).trans (hch _ (by omega)).1) dX2_read_32 ?_
          refine ZI.callV S hK hP hS hB (kX2_take l G A Y1 (ch k) T8 (2 * k) hR8 hRI.1 (by omega) (hch k (by omega)).2 h06 hl1 hl6) zwX2_51 zdX2_take rfl ⟨Nat.le_trans (by decide) hfr, Nat.le_trans (by decide) hlo⟩ (by decide) (zcK1 zk_2) rfl rfl (Nat.le_of_ble_eq_true rfl) hl.1 dX2_read_33 ⟨Nat.zero_le _, Nat.zero_le _⟩ (fun r_24 Y_25 H locs hq_26 hP hS => ?_)
          rcases hq_26 with ⟨hnx, hr9, hR9, hK9⟩ | ⟨hnx, hr9, U, nc, hnc, hU, hUB, hK9⟩
          · skip
            subst hr9
            refine zif_ne (tgt := 41) S (by omega) dX2_read_36 (by decide) (fun c_27 => ?_) (fun c_27 => ?_)
            · skip
              refine lv_iinc (v := nI (k + 1)) (lv' := [(3, .int (nI (k + 1))), (0, .ref (A 2)), (1, .ref (A 1)), (2, .int (nI n))]) hxx hbb dX2_read_41 hl (k := 3) rfl (zinc1 _) (by decide) rfl (fun ls hl => ?_)
              refine lv_goto (tgt := 18) hxx hbb dX2_read_44 (by decide) ?_
              exact ih_18 (k + 1) (sAct T8 (ch k)) Y_25 (by omega) (sRun_s hrun hnx) hR9 (hKR.trans hK9) (by omega) _ _ _ hP hS (lv_sub hl [1, 2, 3, 0] rfl)
            · skip
              exact absurd c_27 (by decide)
          · skip
            subst hr9
            refine zif_ne (tgt := 41) S (by omega) dX2_read_36 (by decide) (fun c_28 => ?_) (fun c_28 => ?_)
            · skip
              exact absurd c_28 (by decide)
            · skip
              refine lv_iload_n hxx hbb dX2_read_39 rfl (lv_at hl 3 rfl) ?_
              exact hret _ _ _ _ _ _ dX2_read_40 (rfl) hP hS (⟨Or.inl ⟨k, T8, by omega, hrun, by unfold sTake; rw [if_pos hnx], rfl⟩, hKR.trans hK9, ⟨U, hU, hUB.mono (by omega)⟩, fun z => absurd z (nI_nem1 (by omega))⟩)
  exact L_18 (_ + 1) 0 (sNew T9) Y_5 (by omega) rfl hR1 (((KR.rf.u (by omega)).u (by omega)).trans hKr1) (Nat.lt_succ_self _) _ _ _ hP hS (lv_sub hl [1, 2, 3, 0] rfl)

set_option maxHeartbeats 4000000 in
set_option maxRecDepth 100000 in
theorem kX5_compile (l : Launch) (G : zG) (A : Nat → Nat) (Y : zY) (n : Nat) (ch : Nat → Nat) (T9 : nY) (hR : RD Y T9) (hBd : RB 190 T9) (hn : n ≤ 40) (hch : ∀ k, k < n → Y 1 k = nI (ch k) ∧ ch k < 65536) (h01 : Y 0 1 = nI n) : ZI l yX5_compile cX5_compile 2 (.int) 6 133 G A Y [.ref (A 0)] (fun r Y' => ∃ q, fltR (sNew T9) ch n q ∧ ((q ≠ -1 ∧ r = q ∧ KC Y Y') ∨ (q = -1 ∧ ∃ U, sRun (sNew T9) ch n = some U ∧ ((24 < sEnd U 0 2 ∧ r = -2 ∧ KC Y Y') ∨ (sEnd U 0 2 ≤ 24 ∧ r = -1 ∧ XP Y' 11 (sEnd U 0 2) (sEnd U 1) (sEnd U 2) (sEnd U 3) ∧ KCp Y Y' ∧ Y' 18 2 = nI 0 ∧ Y' 0 8 = -1 ∧ Y' 0 9 = -1)))) ∧ XR Y' ∧ Y' 0 1 = nI 0) := by
  refine ZI.enter (by decide) (Nat.le_of_ble_eq_true rfl) ?_
  intro p e s m args below meth c R Q hxx hbb S hK hfr hlo hret H ls hP hS hl
  have hB : ∀ q, zAd A q → zAd A q := fun _ h => h
  have hl : lv_has ls 2 [(0, .ref (A 0))] := hl
  have S : CallFix p m c cX5_compile 2 s args wsL_law RX5 := S
  have hG := sNew_G0 hBd
  refine lv_aload_n hxx hbb dX5_compile_0 rfl (lv_at hl 0 rfl) ?_
  refine zgX5_20 S hK hP 0 (by decide) zk_0 dX5_compile_1 ?_
  refine lv_aload_n hxx hbb dX5_compile_4 rfl (lv_at hl 0 rfl) ?_
  refine zgX5_9 S hK hP 0 (by decide) zk_0 dX5_compile_5 ?_
  refine lv_aload_n hxx hbb dX5_compile_8 rfl (lv_at hl 0 rfl) ?_
  refine zgX5_13 S hK hP 0 (by decide) zk_0 (v := nI n) (h01) dX5_compile_9 ?_
  refine ZI.callVN S hK hP hS hB (kX2_read l G A Y n ch T9 hR hBd hn hch) (znX5_61) zwX5_61 zdX2_read rfl ⟨Nat.le_trans (by decide) hfr, Nat.le_trans (by decide) hlo⟩ (by decide) (zcK1 zk_2) rfl rfl (Nat.le_of_ble_eq_true rfl) hl.1 dX5_compile_12 ⟨Nat.zero_le _, Nat.zero_le _⟩ (fun r_1 Y_2 H locs hq_3 hP hS => ?_)
  obtain ⟨hflt, hKR, hXR, hend⟩ := hq_3
  refine lv_istore_n (lv' := [(1, .int r_1), (0, .ref (A 0))]) hxx hbb dX5_compile_15 rfl hl (by decide) rfl (fun ls hl => ?_)
  refine lv_aload_n hxx hbb dX5_compile_16 rfl (lv_at hl 1 rfl) ?_
  refine lv_iconst (v := nI 0) hxx hbb dX5_compile_17 (by decide) ?_
  refine zpX5_13 S hK hP hS hB 0 (by decide) zk_0 dX5_compile_18 (fun H locs hP hS => ?_)
  refine lv_iload_n hxx hbb dX5_compile_21 rfl (lv_at hl 0 rfl) ?_
  refine lv_iconst (v := (-1)) hxx hbb dX5_compile_22 (by decide) ?_
  refine lv_icmp_eq (tgt := 28) hxx hbb dX5_compile_23 (by decide) (fun c_4 => ?_) (fun c_4 => ?_)
  · skip
    obtain ⟨U, hrU, hDU⟩ := hend c_4
    have hUq := sEnd_wf (hG.run n (by omega) U hrU) (by omega) (ok_of hflt hrU c_4 (by omega))
    have hcU := hUq.1.2.1
    refine lv_aload_n hxx hbb dX5_compile_28 rfl (lv_at hl 1 rfl) ?_
    refine zgX5_20 S hK hP 0 (by decide) zk_0 dX5_compile_29 ?_
    refine zgX5_65 S hK hP 2 (by decide) zk_2 dX5_compile_32 ?_
    refine zgX5_68 S hK hP 3 (by decide) zk_3 (v := nI (sEnd U 0 2)) ((zU_np (by decide)).trans (hDU.1)) dX5_compile_35 ?_
    refine lv_bipush (v := nI 24) hxx hbb dX5_compile_38 (by decide) ?_
    refine zcmp_le (tgt := 46) S (by omega) (by omega) dX5_compile_40 (by decide) (fun c_5 => ?_) (fun c_5 => ?_)
    · skip
      refine lv_aload_n hxx hbb dX5_compile_46 rfl (lv_at hl 1 rfl) ?_
      refine zgX5_27 S hK hP 0 (by decide) zk_0 dX5_compile_47 ?_
      refine lv_aload_n hxx hbb dX5_compile_50 rfl (lv_at hl 1 rfl) ?_
      refine zgX5_20 S hK hP 0 (by decide) zk_0 dX5_compile_51 ?_
      refine zgX5_65 S hK hP 2 (by decide) zk_2 dX5_compile_54 ?_
      refine ZV.callVN S hK hP hS hB (kX4_copyFrom l G A (zU Y_2 0 1 (nI 0)) (sEnd U 0 2) (sEnd U 1) (sEnd U 2) (sEnd U 3) (by omega) (XP_zu0 (hDU.xp (by omega)))) (znX5_71) zwX5_71 zdX4_copyFrom rfl ⟨Nat.le_trans (by decide) hfr, Nat.le_trans (by decide) hlo⟩ (by decide) (zcK2 zk_11) rfl rfl (Nat.le_of_ble_eq_true rfl) hl.1 dX5_compile_57 ⟨Nat.zero_le _, Nat.zero_le _⟩ (fun Y_7 H locs hq_8 hP hS => ?_)
      obtain ⟨hXP, hKP⟩ := hq_8
      refine lv_aload_n hxx hbb dX5_compile_60 rfl (lv_at hl 1 rfl) ?_
      refine zgX5_41 S hK hP 0 (by decide) zk_0 dX5_compile_61 ?_
      refine ZV.callVN S hK hP hS hB (kX0_forget l G A Y_7) (znX5_75) zwX5_75 zdX0_forget rfl ⟨Nat.le_trans (by decide) hfr, Nat.le_trans (by decide) hlo⟩ (by decide) (zcK4 zk_18) rfl rfl (Nat.le_of_ble_eq_true rfl) hl.1 dX5_compile_64 ⟨Nat.zero_le _, Nat.zero_le _⟩ (fun Y_10 H locs hq_11 hP hS => ?_)
      rw [hq_11] at hP
      refine lv_aload_n hxx hbb dX5_compile_67 rfl (lv_at hl 1 rfl) ?_
      refine ZV.callV S hK hP hS hB (kX5_forgetMatch l G A (zU Y_7 18 2 (nI 0))) zwX5_78 zdX5_forgetMatch rfl ⟨Nat.le_trans (by decide) hfr, Nat.le_trans (by decide) hlo⟩ (by decide) (zcK0 zk_0) rfl rfl (Nat.le_of_ble_eq_true rfl) hl.1 dX5_compile_68 ⟨Nat.zero_le _, Nat.zero_le _⟩ (fun Y_13 H locs hq_14 hP hS => ?_)
      rw [hq_14] at hP
      refine lv_iconst (v := (-1)) hxx hbb dX5_compile_71 (by decide) ?_
      exact hret _ _ _ _ _ _ dX5_compile_72 (rfl) hP hS (⟨_, hflt, Or.inr ⟨c_4, U, hrU, Or.inr ⟨by omega, rfl, XP_zz hXP, KCp_of hKR hKP, by rw [zU_np (by decide), zU_np (by decide), zU_eq], (zU_nj (by decide)).trans zU_eq, zU_eq⟩⟩, ((((hXR.zu (by omega)).rows (fun q a b => hKP q (by omega))).zu (by omega)).zu (by omega)).zu (by omega), by rw [zU_nj (by decide), zU_nj (by decide), zU_np (by decide)]; exact (congrFun (hKP 0 (by omega)) 1).trans zU_eq⟩)
    · skip
      refine lv_bipush (v := (-2)) hxx hbb dX5_compile_43 (by decide) ?_
      exact hret _ _ _ _ _ _ dX5_compile_45 (rfl) hP hS (⟨_, hflt, Or.inr ⟨c_4, U, hrU, Or.inl ⟨by omega, rfl, KC_of hKR⟩⟩, hXR.zu (by omega), zU_eq⟩)
  · skip
    refine lv_iload_n hxx hbb dX5_compile_26 rfl (lv_at hl 0 rfl) ?_
    exact hret _ _ _ _ _ _ dX5_compile_27 (rfl) hP hS (⟨r_1, hflt, Or.inl ⟨c_4, rfl, KC_of hKR⟩, hXR.zu (by omega), zU_eq⟩)
