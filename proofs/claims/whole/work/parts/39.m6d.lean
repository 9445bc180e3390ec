def pI (a : Nat) (S : nY) : nY := if a = 1 then sItem S else S
theorem pI_d {a : Nat} {S : nY} {j : Nat} (hj : j ≠ 2) : pI a S 0 j = S 0 j := by
  unfold pI; split
  · exact sItem_d hj
  · rfl
def hs9 (a c : Nat) (T : nY) : Prop := (a = 0 ∧ T 0 0 = 0) ∨ (a = 1 ∧ (T 0 0 = 1 ∨ (T 0 0 = 6 ∧ ¬ (48 ≤ c ∧ c ≤ 57))))
theorem sAct_at {a c : Nat} {T : nY} (h : hs9 a c T) (hc : c ≠ 42 ∧ c ≠ 43 ∧ c ≠ 63 ∧ c ≠ 60 ∧ c ≠ 124 ∧ c ≠ 41) : sAct T c = sAt (pI a T) c := by
  rcases h with ⟨h1, h2⟩ | ⟨h1, h2⟩
  · rw [sAct_0 h2]; unfold pI; rw [if_neg (by omega)]
  · rw [sAct_x h2]; unfold sSufx sAft pI
    rw [if_neg (by omega), if_neg (by omega), if_neg (by omega), if_neg (by omega), if_neg (by omega), if_neg (by omega), if_pos h1]
theorem a1_of {a c : Nat} {T : nY} (hx : nx (T 0 0) c (T 0 1) ≠ none) (hc : c = 42 ∨ c = 43 ∨ c = 63 ∨ c = 60 ∨ c = 124 ∨ c = 41) (h : hs9 a c T) : a = 1 ∧ (T 0 0 = 1 ∨ (T 0 0 = 6 ∧ ¬ (48 ≤ c ∧ c ≤ 57))) := by
  rcases h with ⟨h1, h2⟩ | h
  · rw [h2] at hx
    exact absurd (nx_0.mpr (by unfold atP; omega)) hx
  · exact h
theorem d_of {c : Nat} {T : nY} (hx : nx (T 0 0) c (T 0 1) ≠ none) (hc : c = 41) (h : T 0 0 = 1 ∨ (T 0 0 = 6 ∧ ¬ (48 ≤ c ∧ c ≤ 57))) : 0 < T 0 1 := by
  exact Classical.byContradiction (fun z => hx ((nx_1 h).mpr (by unfold atP; omega)))
theorem at_of {a c : Nat} {T : nY} (hx : nx (T 0 0) c (T 0 1) ≠ none) (h : hs9 a c T) (hc : c ≠ 42 ∧ c ≠ 43 ∧ c ≠ 63 ∧ c ≠ 60 ∧ c ≠ 124 ∧ c ≠ 41) : atP c (T 0 1) := by
  rcases h with ⟨h1, h2⟩ | ⟨h1, h2⟩
  · rw [h2] at hx; exact Classical.byContradiction (fun z => hx (nx_0.mpr z))
  · exact Classical.byContradiction (fun z => hx ((nx_1 h2).mpr (fun g => by rcases g with g | g | g | g | g | g | g <;> first | exact z g | omega)))
theorem sSufx_or {S : nY} {c : Nat} (h : c = 124) : sSufx S c = nU (sRow (sItem S)) 0 0 0 := by
  unfold sSufx sAft; rw [if_neg (by omega), if_neg (by omega), if_neg (by omega), if_neg (by omega), if_pos h]
theorem sSufx_cl {S : nY} {c : Nat} (h : c = 41) : sSufx S c = sClose (sItem S) := by
  unfold sSufx sAft; rw [if_neg (by omega), if_neg (by omega), if_neg (by omega), if_neg (by omega), if_neg (by omega), if_pos h]
theorem sSufx_3 {S : nY} {c : Nat} (h : c = 42) : sSufx S c = sSuf S 3 0 := if_pos h
theorem sSufx_4 {S : nY} {c : Nat} (h : c = 43) : sSufx S c = sSuf S 4 0 := by unfold sSufx; rw [if_neg (by omega), if_pos h]
theorem sSufx_5 {S : nY} {c : Nat} (h : c = 63) : sSufx S c = sSuf S 5 0 := by unfold sSufx; rw [if_neg (by omega), if_neg (by omega), if_pos h]
theorem sSufx_60 {S : nY} {c : Nat} (h : c = 60) : sSufx S c = nU S 0 0 5 := by unfold sSufx; rw [if_neg (by omega), if_neg (by omega), if_neg (by omega), if_pos h]
theorem sAt_l {S : nY} {c : Nat} (h : 97 ≤ c ∧ c ≤ 122) : sAt S c = sAtom S (2 ^ (c - 97)) := if_pos h
theorem sAt_dot {S : nY} {c : Nat} (h : c = 46) : sAt S c = sAtom S 67108863 := by unfold sAt; rw [if_neg (by omega), if_pos h]
theorem sAt_set {S : nY} {c : Nat} (h : c = 91) : sAt S c = nU (nU (nU S 0 3 0) 0 4 0) 0 0 2 := by unfold sAt; rw [if_neg (by omega), if_neg (by omega), if_pos h]
theorem sAt_op {S : nY} {c : Nat} (h : c = 40) : sAt S c = sOpen S := by unfold sAt; rw [if_neg (by omega), if_neg (by omega), if_neg (by omega)]
theorem jOR_f (S : nY) : jO (jR S) 0 1 = S 0 1 ∧ jO (jR S) 5 (S 0 1) = 0 ∧ jO (jR S) 6 (S 0 1) = 0 ∧ (1 ≤ S 4 (S 0 1) → 1 ≤ jO (jR S) 4 (S 0 1)) := by
  obtain ⟨a1, a2, a3, a4⟩ := jR_f S
  obtain ⟨b1, b2, b3, b4⟩ := jO_f (jR S)
  rw [a1] at b1 b2 b4
  exact ⟨b1, by rw [b3]; exact a2, b2, fun h => b4 (a4 h)⟩
theorem EQ.r0 {S T : nY} {j v : Nat} (h : EQ T S) (hj : j ≠ 1 ∧ j ≠ 2) : EQ (nU T 0 j v) S := ⟨(nU_nj (by omega)).trans h.1, (nU_nj (by omega)).trans h.2.1, (nU_row (by decide)).trans h.2.2.1, (nU_row (by decide)).trans h.2.2.2.1, (nU_row (by decide)).trans h.2.2.2.2.1, fun e he => ⟨by rw [nU_np (by decide)]; exact (h.2.2.2.2.2 e he).1, by rw [nU_np (by decide)]; exact (h.2.2.2.2.2 e he).2⟩⟩
theorem MS.or {N N' : Nat} {Y : zY} {S : nY} (h : MS N Y (jO (jR S)) 1) (g4 : 1 ≤ S 4 (S 0 1)) (hN : N ≤ N') : MS N' (zU (zU Y 110 (qT (jO (jR S))) (nI 2)) 102 10 (nI (qT (jO (jR S)) + 1))) (nU (sRow (sItem S)) 0 0 0) 0 := by
  obtain ⟨e1, e5, e6, e4⟩ := jOR_f S
  have h2 := h.ho (by rw [e1]; exact e5) (by rw [e1]; exact e6) (by rw [e1]; exact e4 g4)
  rw [e1] at h2
  exact h2.eq0 ((eq_row S).r0 (by decide)) hN
theorem MS.clo {N N' : Nat} {Y : zY} {S : nY} (h : MS N Y (jO (jR S)) 1) (hd : 0 < S 0 1) (hN : N ≤ N') : MS N' (zU Y 102 10 (nI (qT (jO (jR S)) - 1))) (sClose (sItem S)) 1 := by
  obtain ⟨e1, e5, e6, e4⟩ := jOR_f S
  have h2 := h.cl (by rw [e1]; exact e5) (by rw [e1]; exact e6) (by rw [e1]; omega)
  rw [e1] at h2
  obtain ⟨q1, q2, q3, q4, q5, q6⟩ := eq_row S
  have hR : sRow (sItem S) 0 1 = S 0 1 := (sRow_d (by decide)).trans (sItem_d (by decide))
  have hX : nU (jO (jR S)) 6 (S 0 1) (jO (jR S) 4 (S 0 1)) 0 1 = S 0 1 := (nU_np (by decide)).trans e1
  refine h2.cg hN ?_ ?_ ?_ ?_ ?_ ?_ ?_
  · rw [nU_np (by decide), nU_eq]; unfold sClose sClo; rw [nU_nj (by decide), nU_np (by decide), nU_eq, hR]
  · rw [nU_np (by decide), nU_nj (by decide)]; unfold sClose sClo; rw [nU_nj (by decide), nU_np (by decide), nU_nj (by decide), q2]; exact nU_np (by decide)
  · rw [nU_row (by decide), nU_row (by decide)]; unfold sClose sClo; rw [nU_row (by decide), nU_row (by decide), nU_row (by decide), q3]; exact nU_row (by decide)
  · rw [nU_row (by decide), nU_row (by decide)]; unfold sClose sClo; rw [nU_row (by decide), nU_row (by decide), nU_row (by decide), q4]; exact nU_row (by decide)
  · rw [nU_row (by decide), nU_row (by decide)]; unfold sClose sClo; rw [nU_row (by decide), nU_row (by decide), nU_row (by decide), q5]; exact nU_row (by decide)
  · intro e he
    rw [nU_np (by decide), nU_eq] at he
    obtain ⟨r5, r6⟩ := q6 e (by rw [hX]; omega)
    rw [nU_np (by decide)] at r5
    rw [nU_nj (by omega)] at r6
    unfold sClose sClo
    refine ⟨?_, ?_⟩
    · rw [nU_np (by decide), nU_np (by decide), nU_np (by decide), nU_np (by decide), nU_np (by decide)]; exact r5
    · rw [nU_np (by decide), nU_np (by decide), nU_np (by decide), nU_np (by decide), nU_np (by decide)]; exact r6
  · intro _
    have r6 := (q6 (S 0 1) (by rw [hX]; omega)).2
    rw [nU_eq] at r6
    rw [nU_np (by decide), nU_eq, nU_eq]
    unfold sClose sClo
    rw [nU_np (by decide), hR, nU_eq]; exact r6
theorem eq_lim1 (T : nY) (v : Nat) : EQ (nU (sSuf (nU (nU T 0 0 5) 0 5 v) 6 v) 0 0 6) (sSuf T 6 v) ∧ nU (sSuf (nU (nU T 0 0 5) 0 5 v) 6 v) 0 0 6 4 (sSuf T 6 v 0 1) = sSuf T 6 v 4 (sSuf T 6 v 0 1) := by
  refine ⟨⟨by simp [sSuf, sPut, nU], by simp [sSuf, sPut, nU], by funext n; simp [sSuf, sPut, nU], by funext n; simp [sSuf, sPut, nU], by funext n; simp [sSuf, sPut, nU], fun e _ => ⟨by simp [sSuf, sPut, nU], by simp [sSuf, sPut, nU]⟩⟩, by simp [sSuf, sPut, nU]⟩
def lim3 (T : nY) (v : Nat) : nY := nU (sSuf (nU (nU T 0 0 5) 0 5 v) 6 v) 0 0 6
theorem eq_lim2 (T : nY) (v x y : Nat) (hx : y = v * 10 + x) : EQ (nU (nU (lim3 T v) 3 (lim3 T v 4 (lim3 T v 0 1) - 1) (lim3 T v 0 5 * 10 + x)) 0 0 1) (sSuf T 6 y) ∧ nU (nU (lim3 T v) 3 (lim3 T v 4 (lim3 T v 0 1) - 1) (lim3 T v 0 5 * 10 + x)) 0 0 1 4 (sSuf T 6 y 0 1) = sSuf T 6 y 4 (sSuf T 6 y 0 1) := by
  subst hx
  have e4 : lim3 T v 4 (lim3 T v 0 1) = T 0 2 + 1 := by simp [lim3, sSuf, sPut, nU]
  have e5 : lim3 T v 0 5 = v := by simp [lim3, sSuf, sPut, nU]
  rw [e4, e5, Nat.add_sub_cancel]
  refine ⟨⟨by simp [lim3, sSuf, sPut, nU], by simp [lim3, sSuf, sPut, nU], by funext n; simp [lim3, sSuf, sPut, nU], by funext n; simp [lim3, sSuf, sPut, nU], ?_, fun e _ => ⟨by simp [lim3, sSuf, sPut, nU], by simp [lim3, sSuf, sPut, nU]⟩⟩, by simp [lim3, sSuf, sPut, nU]⟩
  funext n
  by_cases g : n = T 0 2 <;> simp [lim3, sSuf, sPut, nU, g]
theorem eq_atom {X T2 T4 : nY} {m : Nat} (h2 : ST X T2) (h : ST T2 T4) : EQ (sAtom T4 m) (sAtom X m) ∧ sAtom T4 m 4 (sAtom X m 0 1) = sAtom X m 4 (sAtom X m 0 1) := by
  have e1 : ∀ q, q ≠ 0 → T4 q = X q := fun q g => (h.1 q g).trans (h2.1 q g)
  have ed : T4 0 1 = X 0 1 := h.2.1.trans h2.2.1
  have ec : T4 0 2 = X 0 2 := h.2.2.trans h2.2.2
  have f1 := e1 1 (by decide); have f2 := e1 2 (by decide); have f3 := e1 3 (by decide); have f4 := e1 4 (by decide); have f5 := e1 5 (by decide); have f6 := e1 6 (by decide)
  refine ⟨⟨by simp [sAtom, sPut, nU, ed], by simp [sAtom, sPut, nU, ec], by funext n; simp [sAtom, sPut, nU, f1, ec], by funext n; simp [sAtom, sPut, nU, f2, ec], by funext n; simp [sAtom, sPut, nU, f3, ec], fun e _ => ⟨by simp [sAtom, sPut, nU, f5], by simp [sAtom, sPut, nU, f6]⟩⟩, by simp [sAtom, sPut, nU, f4, ed, ec]⟩
theorem MS.mono {N N' lv : Nat} {Y : zY} {S : nY} (h : MS N Y S lv) (hN : N ≤ N') : MS N' Y S lv := h.cg hN rfl rfl rfl rfl rfl (fun _ _ => ⟨rfl, rfl⟩) (fun _ => rfl)
theorem NR.ed {Y : zY} {S : nY} (h : NR Y (jO (jR S))) : NR Y (sEnd S) := by
  obtain ⟨q1, q2, q3, q4, q5, q6⟩ := eq_row S
  exact h.cg ⟨rfl, rfl, rfl, rfl⟩ (q2.trans (nU_np (by decide))) (q3.trans (nU_row (by decide))) (q4.trans (nU_row (by decide))) (q5.trans (nU_row (by decide)))
theorem sEnd_c (S : nY) : sEnd S 0 2 = jO (jR S) 0 2 := (eq_row S).2.1.trans (nU_np (by decide))
theorem ms_0 {Y : zY} {S : nY} (h : G0 S) : MS (2 * 0) (zU (zU (zU Y 102 6 (nI 0)) 102 10 (nI 0)) 102 12 (nI 0)) S 0 := by
  obtain ⟨h1, h2, h3, h4, h5, h6, -⟩ := h
  have hw : wT S = 0 := by unfold wT; rw [h2, h5, h6]; rfl
  have hq : qT S = 0 := by unfold qT; rw [h2, h5, h6]; rfl
  unfold MS
  rw [hw, hq, h2, h3]
  refine ⟨⟨by rw [h3]; simp [zU], fun n hn => by omega⟩, ⟨by simp [zU], zU_eq⟩, fun e he => by omega, ⟨fun z => absurd h6 z, fun z => absurd h5 z⟩, fun z => by omega, by omega⟩
set_option maxHeartbeats 16000000 in
set_option maxRecDepth 100000 in
theorem kX6_read (l : Launch) (G : zG) (A : Nat → Nat) (Y : zY) (n : Nat) (ch : Nat → Nat) (S0 U : nY) (hG : G0 S0) (hn : n ≤ 40) (hch : ∀ k, k < n → Y 103 k = nI (ch k) ∧ ch k < 65536) (h0 : Y 102 0 = nI n) (hU : sRun S0 ch n = some U) (hok : okS U) : ZV l yX6_read cX6_read 5 3 67 G A Y [.ref (A 102)] (fun Y' => NR Y' (sEnd U) ∧ sEnd U 0 2 ≤ 80 ∧ MF Y Y') := by
  refine ZV.enter (by decide) (Nat.le_of_ble_eq_true rfl) ?_
  intro p e s m args below meth c R Q hxx hbb S hK hfr hlo hret H ls hP hS hl
  have hB : ∀ q, zAd A q → zAd A q := fun _ h => h
  have hl : lv_has ls 5 [(0, .ref (A 102))] := hl
  have S : CallFix p m c cX6_read 5 s args wsL_law RX6 := S
  have hUn : sRun S0 ch n ≠ none := by rw [hU]; exact fun z => by cases z
  refine lv_aload_n hxx hbb dX6_read_0 rfl (lv_at hl 0 rfl) ?_
  refine lv_iconst (v := nI 0) hxx hbb dX6_read_1 (by decide) ?_
  refine zpX6_79 S hK hP hS hB 102 (by decide) zk_102 dX6_read_2 (fun H locs hP hS => ?_)
  refine lv_aload_n hxx hbb dX6_read_5 rfl (lv_at hl 0 rfl) ?_
  refine lv_iconst (v := nI 0) hxx hbb dX6_read_6 (by decide) ?_
  refine zpX6_85 S hK hP hS hB 102 (by decide) zk_102 dX6_read_7 (fun H locs hP hS => ?_)
  refine lv_aload_n hxx hbb dX6_read_10 rfl (lv_at hl 0 rfl) ?_
  refine lv_iconst (v := nI 0) hxx hbb dX6_read_11 (by decide) ?_
  refine zpX6_82 S hK hP hS hB 102 (by decide) zk_102 dX6_read_12 (fun H locs hP hS => ?_)
  refine lv_iconst (v := nI 0) hxx hbb dX6_read_15 (by decide) ?_
  refine lv_istore_n (lv' := [(1, .int (nI 0)), (0, .ref (A 102))]) hxx hbb dX6_read_16 rfl hl (by decide) rfl (fun ls hl => ?_)
  refine lv_iconst (v := nI 0) hxx hbb dX6_read_17 (by decide) ?_
  refine lv_istore_n (lv' := [(2, .int (nI 0)), (1, .int (nI 0)), (0, .ref (A 102))]) hxx hbb dX6_read_18 rfl hl (by decide) rfl (fun ls hl => ?_)
  have L_19 : ∀ (N_19 : Nat) (k a8 : Nat) (T1 : nY) (Y1 : zY) (hk : k ≤ n) (hrun : sRun S0 ch k = some T1) (hMS : MS (2 * k) Y1 T1 a8) (hMFc : MF Y Y1) (hst : (a8 = 0 ∧ T1 0 0 = 0) ∨ (a8 = 1 ∧ (T1 0 0 = 1 ∨ (T1 0 0 = 6 ∧ (k < n → ¬ (48 ≤ ch k ∧ ch k ≤ 57)))))), n - k < N_19 → ∀ (H : Heap) (locs : List Loc) (ls : Array Slot), va_P G.1 vwCl (zW G A Y1) H → va_S (zAd A) s.heap H locs → lv_has ls 5 [(0, .ref (A 102)), (1, .int (nI a8)), (2, .int (nI k))] → W p l e R s m args below meth c H locs 0 0 Q (F0 m 19 ls []) := by
    intro N_19
    induction N_19 with
    | zero => intro k a8 T1 Y1 hk hrun hMS hMFc hst hm; exact absurd hm (Nat.not_lt_zero _)
    | succ N_19 ih_19 =>
      intro k a8 T1 Y1 hk hrun hMS hMFc hst hm_19 H locs ls hP hS hl
      have hRI := hG.run k (by omega) T1 hrun
      have hd6 := hRI.1.1
      have hl4 : a8 = 1 → 1 ≤ T1 4 (T1 0 1) := fun g => by obtain ⟨q, W, -, h, -⟩ := hRI.2.2.1 (by omega); exact h.1
      refine lv_iload_n hxx hbb dX6_read_19 rfl (lv_at hl 2 rfl) ?_
      refine lv_aload_n hxx hbb dX6_read_20 rfl (lv_at hl 0 rfl) ?_
      refine zgX6_68 S hK hP 102 (by decide) zk_102 (v := nI n) ((hMFc.2 0 (by decide) (by decide) (by decide) (by decide)).trans h0) dX6_read_21 ?_
      refine zcmp_ge (tgt := 317) S (by omega) (by omega) dX6_read_24 (by decide) (fun c_1 => ?_) (fun c_1 => ?_)
      · skip
        have hTU : T1 = U := Option.some.inj (hrun.symm.trans (by rw [show k = n by omega]; exact hU))
        have hok1 : okS T1 := hTU ▸ hok
        unfold okS at hok1
        have ha1 : a8 = 1 := by omega
        have hMS1 : MS (2 * k) Y1 T1 1 := ha1 ▸ hMS
        refine lv_aload_n hxx hbb dX6_read_317 rfl (lv_at hl 0 rfl) ?_
        refine lv_iconst (v := nI 2) hxx hbb dX6_read_318 (by decide) ?_
        refine ZV.callV S hK hP hS hB (kX6_join l G A Y1 2 T1 (2 * k) (hMS1) (by omega) (hd6) (by omega)) zwX6_92 zdX6_join rfl ⟨Nat.le_trans (by decide) hfr, Nat.le_trans (by decide) hlo⟩ (by decide) (zcK6 zk_102) rfl rfl (Nat.le_of_ble_eq_true rfl) hl.1 dX6_read_319 ⟨Nat.zero_le _, Nat.zero_le _⟩ (fun Y_3 H locs hq_4 hP hS => ?_)
        obtain ⟨hMSj, hMFj⟩ := hq_4
        have hMSr : MS (2 * k) Y_3 (jO (jR T1)) 1 := hMSj
        have hMFc := hMFc.trans hMFj
        have hjo := jOR_f T1
        obtain ⟨hla, hlb, hlc⟩ := hMSr.lo (by rw [hjo.1]; exact hd6)
        exact hret _ _ _ _ _ dX6_read_322 hP hS (⟨hTU ▸ hMSr.1.ed, by rw [← hTU, sEnd_c]; omega, hMFc⟩)
      · skip
        have hgo := run_go hUn (by omega) hrun
        have hck := (hch k (by omega)).2
        have hst2 : hs9 a8 (ch k) T1 := hst.imp id (fun g => ⟨g.1, g.2.imp id (fun z => ⟨z.1, z.2 (by omega)⟩)⟩)
        refine lv_aload_n hxx hbb dX6_read_27 rfl (lv_at hl 0 rfl) ?_
        refine zgX6_7 S hK hP 102 (by decide) zk_102 dX6_read_28 ?_
        refine lv_iload_n hxx hbb dX6_read_31 rfl (lv_at hl 2 rfl) ?_
        refine zaldN S hK hP 103 40 (by decide) zk_103 zl_103 (by omega) (v := nI (ch k)) ((congrFun (hMFc.1 103 (by omega)) _).trans (hch _ (by omega)).1) dX6_read_32 ?_
        refine lv_istore_n (lv' := [(3, .int (nI (ch k))), (0, .ref (A 102)), (1, .int (nI a8)), (2, .int (nI k))]) hxx hbb dX6_read_33 rfl hl (by decide) rfl (fun ls hl => ?_)
        refine lv_iinc (v := nI (k + 1)) (lv' := [(2, .int (nI (k + 1))), (3, .int (nI (ch k))), (0, .ref (A 102)), (1, .int (nI a8))]) hxx hbb dX6_read_34 hl (k := 3) rfl (zinc1 _) (by decide) rfl (fun ls hl => ?_)
        refine lv_iload_n hxx hbb dX6_read_37 rfl (lv_at hl 1 rfl) ?_
        refine lv_bipush (v := nI 124) hxx hbb dX6_read_38 (by decide) ?_
        refine zcmp_ne (tgt := 58) S (by omega) (by omega) dX6_read_40 (by decide) (fun c_5 => ?_) (fun c_5 => ?_)
        · skip
          refine lv_iload_n hxx hbb dX6_read_58 rfl (lv_at hl 1 rfl) ?_
          refine lv_bipush (v := nI 40) hxx hbb dX6_read_59 (by decide) ?_
          refine zcmp_ne (tgt := 80) S (by omega) (by omega) dX6_read_61 (by decide) (fun c_6 => ?_) (fun c_6 => ?_)
          · skip
            refine lv_iload_n hxx hbb dX6_read_80 rfl (lv_at hl 1 rfl) ?_
            refine lv_bipush (v := nI 41) hxx hbb dX6_read_81 (by decide) ?_
            refine zcmp_ne (tgt := 104) S (by omega) (by omega) dX6_read_83 (by decide) (fun c_7 => ?_) (fun c_7 => ?_)
            · skip
              refine lv_iload_n hxx hbb dX6_read_104 rfl (lv_at hl 1 rfl) ?_
              refine lv_bipush (v := nI 42) hxx hbb dX6_read_105 (by decide) ?_
              refine zcmp_eq (tgt := 122) S (by omega) (by omega) dX6_read_107 (by decide) (fun c_8 => ?_) (fun c_8 => ?_)
              · skip
                obtain ⟨ha1, hs16⟩ := a1_of hgo.1 (by omega) hst2
                have hMS1 : MS (2 * k) Y1 T1 1 := ha1 ▸ hMS
                refine lv_aload_n hxx hbb dX6_read_122 rfl (lv_at hl 2 rfl) ?_
                refine lv_iload_n hxx hbb dX6_read_123 rfl (lv_at hl 1 rfl) ?_
                refine lv_bipush (v := nI 42) hxx hbb dX6_read_124 (by decide) ?_
                refine zcmp_ne (tgt := 133) S (by omega) (by omega) dX6_read_126 (by decide) (fun c_9 => ?_) (fun c_9 => ?_)
                · skip
                  exfalso; omega
                · skip
                  refine lv_iconst (v := nI 3) hxx hbb dX6_read_129 (by decide) ?_
                  refine lv_goto (tgt := 144) hxx hbb dX6_read_130 (by decide) ?_
                  refine lv_iconst (v := nI 0) hxx hbb dX6_read_144 (by decide) ?_
                  refine ZV.callV S hK hP hS hB (kX6_suffix l G A Y1 3 0 T1 (2 * k) (hMS1) (by omega) (hd6)) zwX6_107 zdX6_suffix rfl ⟨Nat.le_trans (by decide) hfr, Nat.le_trans (by decide) hlo⟩ (by decide) (zcK6 zk_102) rfl rfl (Nat.le_of_ble_eq_true rfl) hl.1 dX6_read_145 ⟨Nat.zero_le _, Nat.zero_le _⟩ (fun Y_11 H locs hq_12 hP hS => ?_)
                  obtain ⟨hMSs, hMFs⟩ := hq_12
                  have hMFc := hMFc.trans hMFs
                  refine lv_goto (tgt := 298) hxx hbb dX6_read_148 (by decide) ?_
                  refine lv_iload_n hxx hbb dX6_read_298 rfl (lv_at hl 3 rfl) ?_
                  refine zif_ne (tgt := 308) S (by omega) dX6_read_299 (by decide) (fun c_13 => ?_) (fun c_13 => ?_)
                  · skip
                    refine lv_iconst (v := nI 1) hxx hbb dX6_read_308 (by decide) ?_
                    refine lv_goto (tgt := 313) hxx hbb dX6_read_309 (by decide) ?_
                    refine lv_istore_n (lv' := [(1, .int (nI 1)), (2, .int (nI (k + 1))), (3, .int (nI (ch k))), (0, .ref (A 102))]) hxx hbb dX6_read_313 rfl hl (by decide) rfl (fun ls hl => ?_)
                    refine lv_goto (tgt := 19) hxx hbb dX6_read_314 (by decide) ?_
                    exact ih_19 (k + 1) 1 (sSuf T1 3 0) Y_11 (by omega) (hgo.2.trans (congrArg some ((sAct_x hs16).trans (sSufx_3 (by omega))))) (hMSs.mono (by omega)) hMFc (Or.inr ⟨rfl, Or.inl sSuf_s.1⟩) (by omega) _ _ _ hP hS (lv_sub hl [3, 0, 1] rfl)
                  · skip
                    exfalso; omega
              · skip
                refine lv_iload_n hxx hbb dX6_read_110 rfl (lv_at hl 1 rfl) ?_
                refine lv_bipush (v := nI 43) hxx hbb dX6_read_111 (by decide) ?_
                refine zcmp_eq (tgt := 122) S (by omega) (by omega) dX6_read_113 (by decide) (fun c_14 => ?_) (fun c_14 => ?_)
                · skip
                  obtain ⟨ha1, hs16⟩ := a1_of hgo.1 (by omega) hst2
                  have hMS1 : MS (2 * k) Y1 T1 1 := ha1 ▸ hMS
                  refine lv_aload_n hxx hbb dX6_read_122 rfl (lv_at hl 2 rfl) ?_
                  refine lv_iload_n hxx hbb dX6_read_123 rfl (lv_at hl 1 rfl) ?_
                  refine lv_bipush (v := nI 42) hxx hbb dX6_read_124 (by decide) ?_
                  refine zcmp_ne (tgt := 133) S (by omega) (by omega) dX6_read_126 (by decide) (fun c_15 => ?_) (fun c_15 => ?_)
                  · skip
                    refine lv_iload_n hxx hbb dX6_read_133 rfl (lv_at hl 1 rfl) ?_
                    refine lv_bipush (v := nI 43) hxx hbb dX6_read_134 (by decide) ?_
                    refine zcmp_ne (tgt := 143) S (by omega) (by omega) dX6_read_136 (by decide) (fun c_16 => ?_) (fun c_16 => ?_)
                    · skip
                      exfalso; omega
                    · skip
                      refine lv_iconst (v := nI 4) hxx hbb dX6_read_139 (by decide) ?_
                      refine lv_goto (tgt := 144) hxx hbb dX6_read_140 (by decide) ?_
                      refine lv_iconst (v := nI 0) hxx hbb dX6_read_144 (by decide) ?_
                      refine ZV.callV S hK hP hS hB (kX6_suffix l G A Y1 4 0 T1 (2 * k) (hMS1) (by omega) (hd6)) zwX6_107 zdX6_suffix rfl ⟨Nat.le_trans (by decide) hfr, Nat.le_trans (by decide) hlo⟩ (by decide) (zcK6 zk_102) rfl rfl (Nat.le_of_ble_eq_true rfl) hl.1 dX6_read_145 ⟨Nat.zero_le _, Nat.zero_le _⟩ (fun Y_18 H locs hq_19 hP hS => ?_)
                      obtain ⟨hMSs, hMFs⟩ := hq_19
                      have hMFc := hMFc.trans hMFs
                      refine lv_goto (tgt := 298) hxx hbb dX6_read_148 (by decide) ?_
                      refine lv_iload_n hxx hbb dX6_read_298 rfl (lv_at hl 3 rfl) ?_
                      refine zif_ne (tgt := 308) S (by omega) dX6_read_299 (by decide) (fun c_20 => ?_) (fun c_20 => ?_)
                      · skip
                        refine lv_iconst (v := nI 1) hxx hbb dX6_read_308 (by decide) ?_
                        refine lv_goto (tgt := 313) hxx hbb dX6_read_309 (by decide) ?_
                        refine lv_istore_n (lv' := [(1, .int (nI 1)), (2, .int (nI (k + 1))), (3, .int (nI (ch k))), (0, .ref (A 102))]) hxx hbb dX6_read_313 rfl hl (by decide) rfl (fun ls hl => ?_)
                        refine lv_goto (tgt := 19) hxx hbb dX6_read_314 (by decide) ?_
                        exact ih_19 (k + 1) 1 (sSuf T1 4 0) Y_18 (by omega) (hgo.2.trans (congrArg some ((sAct_x hs16).trans (sSufx_4 (by omega))))) (hMSs.mono (by omega)) hMFc (Or.inr ⟨rfl, Or.inl sSuf_s.1⟩) (by omega) _ _ _ hP hS (lv_sub hl [3, 0, 1] rfl)
                      · skip
                        exfalso; omega
                  · skip
                    exfalso; omega
                · skip
                  refine lv_iload_n hxx hbb dX6_read_116 rfl (lv_at hl 1 rfl) ?_
                  refine lv_bipush (v := nI 63) hxx hbb dX6_read_117 (by decide) ?_
                  refine zcmp_ne (tgt := 151) S (by omega) (by omega) dX6_read_119 (by decide) (fun c_21 => ?_) (fun c_21 => ?_)
                  · skip
                    refine lv_iload_n hxx hbb dX6_read_151 rfl (lv_at hl 1 rfl) ?_
                    refine lv_bipush (v := nI 60) hxx hbb dX6_read_152 (by decide) ?_
                    refine zcmp_ne (tgt := 232) S (by omega) (by omega) dX6_read_154 (by decide) (fun c_22 => ?_) (fun c_22 => ?_)
                    · skip
                      have hat := at_of hgo.1 hst2 (by omega)
                      unfold atP at hat
                      refine lv_aload_n hxx hbb dX6_read_232 rfl (lv_at hl 2 rfl) ?_
                      refine lv_iload_n hxx hbb dX6_read_233 rfl (lv_at hl 3 rfl) ?_
                      refine ZV.callV S hK hP hS hB (kX6_item l G A Y1 a8 T1 (2 * k) (hMS) (by omega) hd6 (by omega) hl4) zwX6_103 zdX6_item rfl ⟨Nat.le_trans (by decide) hfr, Nat.le_trans (by decide) hlo⟩ (by decide) (zcK6 zk_102) rfl rfl (Nat.le_of_ble_eq_true rfl) hl.1 dX6_read_234 ⟨Nat.zero_le _, Nat.zero_le _⟩ (fun Y_24 H locs hq_25 hP hS => ?_)
                      obtain ⟨hMSi, hMFi⟩ := hq_25
                      have hMSp : MS (2 * k) Y_24 (pI a8 T1) 0 := hMSi
                      have hMFc := hMFc.trans hMFi
                      obtain ⟨hla, hlb, hlc⟩ := hMSp.lo (by rw [pI_d (by decide)]; exact hd6)
                      refine lv_aload_n hxx hbb dX6_read_237 rfl (lv_at hl 2 rfl) ?_
                      refine lv_iload_n hxx hbb dX6_read_238 rfl (lv_at hl 1 rfl) ?_
                      refine lv_bipush (v := nI 46) hxx hbb dX6_read_239 (by decide) ?_
                      refine zcmp_ne (tgt := 249) S (by omega) (by omega) dX6_read_241 (by decide) (fun c_26 => ?_) (fun c_26 => ?_)
                      · skip
                        refine lv_iconst (v := nI 1) hxx hbb dX6_read_249 (by decide) ?_
                        refine lv_iload_n hxx hbb dX6_read_250 rfl (lv_at hl 1 rfl) ?_
                        refine lv_bipush (v := nI 91) hxx hbb dX6_read_251 (by decide) ?_
                        refine zcmp_ne (tgt := 260) S (by omega) (by omega) dX6_read_253 (by decide) (fun c_27 => ?_) (fun c_27 => ?_)
                        · skip
                          refine lv_iload_n hxx hbb dX6_read_260 rfl (lv_at hl 1 rfl) ?_
                          refine lv_bipush (v := nI 97) hxx hbb dX6_read_261 (by decide) ?_
                          refine zsubN S (by omega) dX6_read_263 ?_
                          refine lv_ishl hxx hbb dX6_read_264 ?_
                          rw [zshl (by omega)]
                          refine zpX6_99 S hK hP hS hB 102 (by decide) zk_102 dX6_read_265 (fun H locs hP hS => ?_)
                          refine lv_iload_n hxx hbb dX6_read_268 rfl (lv_at hl 1 rfl) ?_
                          refine lv_bipush (v := nI 91) hxx hbb dX6_read_269 (by decide) ?_
                          refine zcmp_ne (tgt := 284) S (by omega) (by omega) dX6_read_271 (by decide) (fun c_28 => ?_) (fun c_28 => ?_)
                          · skip
                            refine lv_iload_n hxx hbb dX6_read_284 rfl (lv_at hl 0 rfl) ?_
                            refine lv_istore_n (lv' := [(2, .int (nI (k + 1))), (3, .int (nI (ch k))), (0, .ref (A 102)), (1, .int (nI a8))]) hxx hbb dX6_read_285 rfl hl (by decide) rfl (fun ls hl => ?_)
                            refine lv_aload_n hxx hbb dX6_read_286 rfl (lv_at hl 2 rfl) ?_
                            refine lv_iconst (v := nI 0) hxx hbb dX6_read_287 (by decide) ?_
                            refine lv_aload_n hxx hbb dX6_read_288 rfl (lv_at hl 2 rfl) ?_
                            refine zgX6_99 S hK hP 102 (by decide) zk_102 (v := nI (2 ^ (ch k - 97))) (zU_eq) dX6_read_289 ?_
                            refine lv_iconst (v := nI 0) hxx hbb dX6_read_292 (by decide) ?_
                            have hMSq : MS (2 * k) (zU Y_24 102 14 (nI (2 ^ (ch k - 97)))) (pI a8 T1) 0 := (hMSp.ml ML.rf.f)
                            have hMFq : MF Y (zU Y_24 102 14 (nI (2 ^ (ch k - 97)))) := hMFc.f (by omega)
                            refine ZV.callV S hK hP hS hB (kX6_make l G A (zU Y_24 102 14 (nI (2 ^ (ch k - 97)))) (pI a8 T1 0 2) (wT (pI a8 T1)) (nI 0) (nI (2 ^ (ch k - 97))) (nI 0) (hMSq.1.1) (by omega) (hMSq.2.1.2) (by omega)) zwX6_88 zdX6_make rfl ⟨Nat.le_trans (by decide) hfr, Nat.le_trans (by decide) hlo⟩ (by decide) (zcK6 zk_102) rfl rfl (Nat.le_of_ble_eq_true rfl) hl.1 dX6_read_293 ⟨Nat.zero_le _, Nat.zero_le _⟩ (fun Y_30 H locs hq_31 hP hS => ?_)
                            have hm := hq_31
                            have hMSn := hMSq.atom hm
                            have hMFc := hMFq.m hm
                            refine lv_iconst (v := nI 1) hxx hbb dX6_read_296 (by decide) ?_
                            refine lv_istore_n (lv' := [(1, .int (nI 1)), (2, .int (nI (k + 1))), (3, .int (nI (ch k))), (0, .ref (A 102))]) hxx hbb dX6_read_297 rfl hl (by decide) rfl (fun ls hl => ?_)
                            refine lv_iload_n hxx hbb dX6_read_298 rfl (lv_at hl 0 rfl) ?_
                            refine zif_ne (tgt := 308) S (by omega) dX6_read_299 (by decide) (fun c_32 => ?_) (fun c_32 => ?_)
                            · skip
                              refine lv_iconst (v := nI 1) hxx hbb dX6_read_308 (by decide) ?_
                              refine lv_goto (tgt := 313) hxx hbb dX6_read_309 (by decide) ?_
                              refine lv_istore_n (lv' := [(1, .int (nI 1)), (2, .int (nI (k + 1))), (3, .int (nI (ch k))), (0, .ref (A 102))]) hxx hbb dX6_read_313 rfl hl (by decide) rfl (fun ls hl => ?_)
                              refine lv_goto (tgt := 19) hxx hbb dX6_read_314 (by decide) ?_
                              exact ih_19 (k + 1) 1 (sAtom (pI a8 T1) ((2 ^ (ch k - 97)))) Y_30 (by omega) (hgo.2.trans (congrArg some ((sAct_at hst2 (by omega)).trans (sAt_l (by omega))))) (hMSn.mono (by omega)) hMFc (Or.inr ⟨rfl, Or.inl sAtom_s.1⟩) (by omega) _ _ _ hP hS (lv_sub hl [3, 0, 1] rfl)
                            · skip
                              exact absurd c_32 (by decide)
                          · skip
                            exfalso; omega
                        · skip
                          refine lv_iconst (v := nI 0) hxx hbb dX6_read_256 (by decide) ?_
                          refine lv_goto (tgt := 264) hxx hbb dX6_read_257 (by decide) ?_
                          refine lv_ishl hxx hbb dX6_read_264 ?_
                          rw [zshl (by omega)]
                          refine zpX6_99 S hK hP hS hB 102 (by decide) zk_102 dX6_read_265 (fun H locs hP hS => ?_)
                          refine lv_iload_n hxx hbb dX6_read_268 rfl (lv_at hl 1 rfl) ?_
                          refine lv_bipush (v := nI 91) hxx hbb dX6_read_269 (by decide) ?_
                          refine zcmp_ne (tgt := 284) S (by omega) (by omega) dX6_read_271 (by decide) (fun c_33 => ?_) (fun c_33 => ?_)
                          · skip
                            exfalso; omega
                          · skip
                            refine lv_aload_n hxx hbb dX6_read_274 rfl (lv_at hl 2 rfl) ?_
                            refine lv_iload_n hxx hbb dX6_read_275 rfl (lv_at hl 0 rfl) ?_
                            refine lv_iconst (v := nI 1) hxx hbb dX6_read_276 (by decide) ?_
                            refine zsubN S (by omega) dX6_read_277 ?_
                            have hr91 : sRun S0 ch (k + 1) = some (nU (nU (nU (pI a8 T1) 0 3 0) 0 4 0) 0 0 2) := hgo.2.trans (congrArg some ((sAct_at hst2 (by omega)).trans (sAt_set (by omega))))
                            refine ZI.callV S hK hP hS hB (kX6_set l G A (zU Y_24 102 14 (nI (2 ^ (0)))) (k + 1 - 1) n ch S0 (nU (nU (nU (pI a8 T1) 0 3 0) 0 4 0) 0 0 2) U hG hn (fun j hj => ⟨(zU_np (by decide)).trans ((congrFun (hMFc.1 103 (by omega)) j).trans (hch j hj).1), (hch j hj).2⟩) hU hok (by rw [Nat.add_sub_cancel]; exact hr91) nU_eq (by rw [nU_nj (by decide), nU_nj (by decide), nU_eq]) (by rw [nU_nj (by decide), nU_eq]) (by omega)) zwX6_111 zdX6_set rfl ⟨Nat.le_trans (by decide) hfr, Nat.le_trans (by decide) hlo⟩ (by decide) (zcK6 zk_102) rfl rfl (Nat.le_of_ble_eq_true rfl) hl.1 dX6_read_278 ⟨Nat.zero_le _, Nat.zero_le _⟩ (fun r_34 Y_35 H locs hq_36 hP hS => ?_)
                            obtain ⟨b8, m8, T4, hb1, hb2, hr9, hrb, hST4, h14, hML4⟩ := hq_36
                            subst hr9
                            have hMSp := (hMSp.ml ML.rf.f).ml hML4
                            have hMFc := (hMFc.ml ML.rf.f).ml hML4
                            have hb1 : k + 1 < b8 := by omega
                            refine lv_goto (tgt := 285) hxx hbb dX6_read_281 (by decide) ?_
                            refine lv_istore_n (lv' := [(2, .int (nI b8)), (3, .int (nI (ch k))), (0, .ref (A 102)), (1, .int (nI a8))]) hxx hbb dX6_read_285 rfl hl (by decide) rfl (fun ls hl => ?_)
                            refine lv_aload_n hxx hbb dX6_read_286 rfl (lv_at hl 2 rfl) ?_
                            refine lv_iconst (v := nI 0) hxx hbb dX6_read_287 (by decide) ?_
                            refine lv_aload_n hxx hbb dX6_read_288 rfl (lv_at hl 2 rfl) ?_
                            refine zgX6_99 S hK hP 102 (by decide) zk_102 (v := nI m8) (h14) dX6_read_289 ?_
                            refine lv_iconst (v := nI 0) hxx hbb dX6_read_292 (by decide) ?_
                            have hMSq : MS (2 * k) Y_35 (pI a8 T1) 0 := hMSp
                            have hMFq : MF Y Y_35 := hMFc
                            refine ZV.callV S hK hP hS hB (kX6_make l G A Y_35 (pI a8 T1 0 2) (wT (pI a8 T1)) (nI 0) (nI m8) (nI 0) (hMSq.1.1) (by omega) (hMSq.2.1.2) (by omega)) zwX6_88 zdX6_make rfl ⟨Nat.le_trans (by decide) hfr, Nat.le_trans (by decide) hlo⟩ (by decide) (zcK6 zk_102) rfl rfl (Nat.le_of_ble_eq_true rfl) hl.1 dX6_read_293 ⟨Nat.zero_le _, Nat.zero_le _⟩ (fun Y_38 H locs hq_39 hP hS => ?_)
                            have hm := hq_39
                            have hMSn := hMSq.atom hm
                            have hMFc := hMFq.m hm
                            refine lv_iconst (v := nI 1) hxx hbb dX6_read_296 (by decide) ?_
                            refine lv_istore_n (lv' := [(1, .int (nI 1)), (2, .int (nI b8)), (3, .int (nI (ch k))), (0, .ref (A 102))]) hxx hbb dX6_read_297 rfl hl (by decide) rfl (fun ls hl => ?_)
                            refine lv_iload_n hxx hbb dX6_read_298 rfl (lv_at hl 0 rfl) ?_
                            refine zif_ne (tgt := 308) S (by omega) dX6_read_299 (by decide) (fun c_40 => ?_) (fun c_40 => ?_)
                            · skip
                              refine lv_iconst (v := nI 1) hxx hbb dX6_read_308 (by decide) ?_
                              refine lv_goto (tgt := 313) hxx hbb dX6_read_309 (by decide) ?_
                              refine lv_istore_n (lv' := [(1, .int (nI 1)), (2, .int (nI b8)), (3, .int (nI (ch k))), (0, .ref (A 102))]) hxx hbb dX6_read_313 rfl hl (by decide) rfl (fun ls hl => ?_)
                              refine lv_goto (tgt := 19) hxx hbb dX6_read_314 (by decide) ?_
                              exact ih_19 b8 1 (sAtom T4 m8) Y_38 (by omega) hrb (hMSn.eq1 (eq_atom (((ST.rf.r (by decide)).r (by decide)).r (by decide)) hST4).1 (eq_atom (((ST.rf.r (by decide)).r (by decide)).r (by decide)) hST4).2 (by omega)) hMFc (Or.inr ⟨rfl, Or.inl sAtom_s.1⟩) (by omega) _ _ _ hP hS (lv_sub hl [3, 0, 1] rfl)
                            · skip
                              exact absurd c_40 (by decide)
                      · skip
                        refine zldc S (v := 67108863) zxX6_102 dX6_read_244 ?_
                        rw [show (67108863 : Int32) = nI 67108863 from rfl]
                        refine lv_goto (tgt := 265) hxx hbb dX6_read_246 (by decide) ?_
                        refine zpX6_99 S hK hP hS hB 102 (by decide) zk_102 dX6_read_265 (fun H locs hP hS => ?_)
                        refine lv_iload_n hxx hbb dX6_read_268 rfl (lv_at hl 1 rfl) ?_
                        refine lv_bipush (v := nI 91) hxx hbb dX6_read_269 (by decide) ?_
                        refine zcmp_ne (tgt := 284) S (by omega) (by omega) dX6_read_271 (by decide) (fun c_41 => ?_) (fun c_41 => ?_)
                        · skip
                          refine lv_iload_n hxx hbb dX6_read_284 rfl (lv_at hl 0 rfl) ?_
                          refine lv_istore_n (lv' := [(2, .int (nI (k + 1))), (3, .int (nI (ch k))), (0, .ref (A 102)), (1, .int (nI a8))]) hxx hbb dX6_read_285 rfl hl (by decide) rfl (fun ls hl => ?_)
                          refine lv_aload_n hxx hbb dX6_read_286 rfl (lv_at hl 2 rfl) ?_
                          refine lv_iconst (v := nI 0) hxx hbb dX6_read_287 (by decide) ?_
                          refine lv_aload_n hxx hbb dX6_read_288 rfl (lv_at hl 2 rfl) ?_
                          refine zgX6_99 S hK hP 102 (by decide) zk_102 (v := nI 67108863) (zU_eq) dX6_read_289 ?_
                          refine lv_iconst (v := nI 0) hxx hbb dX6_read_292 (by decide) ?_
                          have hMSq : MS (2 * k) (zU Y_24 102 14 (nI 67108863)) (pI a8 T1) 0 := (hMSp.ml ML.rf.f)
                          have hMFq : MF Y (zU Y_24 102 14 (nI 67108863)) := hMFc.f (by omega)
                          refine ZV.callV S hK hP hS hB (kX6_make l G A (zU Y_24 102 14 (nI 67108863)) (pI a8 T1 0 2) (wT (pI a8 T1)) (nI 0) (nI 67108863) (nI 0) (hMSq.1.1) (by omega) (hMSq.2.1.2) (by omega)) zwX6_88 zdX6_make rfl ⟨Nat.le_trans (by decide) hfr, Nat.le_trans (by decide) hlo⟩ (by decide) (zcK6 zk_102) rfl rfl (Nat.le_of_ble_eq_true rfl) hl.1 dX6_read_293 ⟨Nat.zero_le _, Nat.zero_le _⟩ (fun Y_43 H locs hq_44 hP hS => ?_)
                          have hm := hq_44
                          have hMSn := hMSq.atom hm
                          have hMFc := hMFq.m hm
                          refine lv_iconst (v := nI 1) hxx hbb dX6_read_296 (by decide) ?_
                          refine lv_istore_n (lv' := [(1, .int (nI 1)), (2, .int (nI (k + 1))), (3, .int (nI (ch k))), (0, .ref (A 102))]) hxx hbb dX6_read_297 rfl hl (by decide) rfl (fun ls hl => ?_)
                          refine lv_iload_n hxx hbb dX6_read_298 rfl (lv_at hl 0 rfl) ?_
                          refine zif_ne (tgt := 308) S (by omega) dX6_read_299 (by decide) (fun c_45 => ?_) (fun c_45 => ?_)
                          · skip
                            refine lv_iconst (v := nI 1) hxx hbb dX6_read_308 (by decide) ?_
                            refine lv_goto (tgt := 313) hxx hbb dX6_read_309 (by decide) ?_
                            refine lv_istore_n (lv' := [(1, .int (nI 1)), (2, .int (nI (k + 1))), (3, .int (nI (ch k))), (0, .ref (A 102))]) hxx hbb dX6_read_313 rfl hl (by decide) rfl (fun ls hl => ?_)
                            refine lv_goto (tgt := 19) hxx hbb dX6_read_314 (by decide) ?_
                            exact ih_19 (k + 1) 1 (sAtom (pI a8 T1) (67108863)) Y_43 (by omega) (hgo.2.trans (congrArg some ((sAct_at hst2 (by omega)).trans (sAt_dot (by omega))))) (hMSn.mono (by omega)) hMFc (Or.inr ⟨rfl, Or.inl sAtom_s.1⟩) (by omega) _ _ _ hP hS (lv_sub hl [3, 0, 1] rfl)
                          · skip
                            exact absurd c_45 (by decide)
                        · skip
                          exfalso; omega
                    · skip
                      obtain ⟨ha1, hs16⟩ := a1_of hgo.1 (by omega) hst2
                      have hMS1 : MS (2 * k) Y1 T1 1 := ha1 ▸ hMS
                      have hr2 : sRun S0 ch (k + 1) = some (nU T1 0 0 5) := hgo.2.trans (congrArg some ((sAct_x hs16).trans (sSufx_60 (by omega))))
                      have hlt2 : k + 1 < n := run_lt hU hok (by omega) hr2 (fun z => by unfold okS at z; rw [nU_eq] at z; omega)
                      have hgo2 := run_go hUn hlt2 hr2
                      have hdg : 48 ≤ ch (k + 1) ∧ ch (k + 1) ≤ 57 := Classical.byContradiction (fun z => hgo2.1 (by rw [nU_eq]; exact nx_5.mpr z))
                      have hr3 : sRun S0 ch (k + 1 + 1) = some (lim3 T1 (ch (k + 1) - 48)) := hgo2.2.trans (congrArg some (sAct_5 nU_eq))
                      have hck2 : k + 1 + 1 < n → ch (k + 1 + 1) < 65536 := fun g => (hch _ g).2
                      refine lv_aload_n hxx hbb dX6_read_157 rfl (lv_at hl 2 rfl) ?_
                      refine zgX6_7 S hK hP 102 (by decide) zk_102 dX6_read_158 ?_
                      refine lv_iload_n hxx hbb dX6_read_161 rfl (lv_at hl 0 rfl) ?_
                      refine zaldN S hK hP 103 40 (by decide) zk_103 zl_103 (by omega) (v := nI (ch (k + 1))) ((congrFun (hMFc.1 103 (by omega)) _).trans (hch _ (by omega)).1) dX6_read_162 ?_
                      refine lv_bipush (v := nI 48) hxx hbb dX6_read_163 (by decide) ?_
                      refine zsubN S (by omega) dX6_read_165 ?_
                      refine lv_istore (lv' := [(4, .int (nI (ch (k + 1) - 48))), (2, .int (nI (k + 1))), (3, .int (nI (ch k))), (0, .ref (A 102)), (1, .int (nI a8))]) hxx hbb dX6_read_166 hl (by decide) rfl (fun ls hl => ?_)
                      refine lv_iinc (v := nI (k + 1 + 1)) (lv' := [(2, .int (nI (k + 1 + 1))), (4, .int (nI (ch (k + 1) - 48))), (3, .int (nI (ch k))), (0, .ref (A 102)), (1, .int (nI a8))]) hxx hbb dX6_read_168 hl (k := 1) rfl (zinc1 _) (by decide) rfl (fun ls hl => ?_)
                      refine lv_iload_n hxx hbb dX6_read_171 rfl (lv_at hl 0 rfl) ?_
                      refine lv_aload_n hxx hbb dX6_read_172 rfl (lv_at hl 3 rfl) ?_
                      refine zgX6_68 S hK hP 102 (by decide) zk_102 (v := nI n) ((hMFc.2 0 (by decide) (by decide) (by decide) (by decide)).trans h0) dX6_read_173 ?_
                      refine zcmp_ge (tgt := 221) S (by omega) (by omega) dX6_read_176 (by decide) (fun c_46 => ?_) (fun c_46 => ?_)
                      · skip
                        refine lv_aload_n hxx hbb dX6_read_221 rfl (lv_at hl 3 rfl) ?_
                        refine lv_bipush (v := nI 6) hxx hbb dX6_read_222 (by decide) ?_
                        refine lv_iload hxx hbb dX6_read_224 (lv_at hl 1 rfl) ?_
                        refine ZV.callV S hK hP hS hB (kX6_suffix l G A Y1 6 (ch (k + 1) - 48) T1 (2 * k) (hMS1) (by omega) (hd6)) zwX6_107 zdX6_suffix rfl ⟨Nat.le_trans (by decide) hfr, Nat.le_trans (by decide) hlo⟩ (by decide) (zcK6 zk_102) rfl rfl (Nat.le_of_ble_eq_true rfl) hl.1 dX6_read_226 ⟨Nat.zero_le _, Nat.zero_le _⟩ (fun Y_48 H locs hq_49 hP hS => ?_)
                        obtain ⟨hMSs, hMFs⟩ := hq_49
                        have hMFc := hMFc.trans hMFs
                        refine lv_goto (tgt := 298) hxx hbb dX6_read_229 (by decide) ?_
                        refine lv_iload_n hxx hbb dX6_read_298 rfl (lv_at hl 4 rfl) ?_
                        refine zif_ne (tgt := 308) S (by omega) dX6_read_299 (by decide) (fun c_50 => ?_) (fun c_50 => ?_)
                        · skip
                          refine lv_iconst (v := nI 1) hxx hbb dX6_read_308 (by decide) ?_
                          refine lv_goto (tgt := 313) hxx hbb dX6_read_309 (by decide) ?_
                          refine lv_istore_n (lv' := [(1, .int (nI 1)), (2, .int (nI (k + 1 + 1))), (4, .int (nI (ch (k + 1) - 48))), (3, .int (nI (ch k))), (0, .ref (A 102))]) hxx hbb dX6_read_313 rfl hl (by decide) rfl (fun ls hl => ?_)
                          refine lv_goto (tgt := 19) hxx hbb dX6_read_314 (by decide) ?_
                          exact ih_19 (k + 1 + 1) 1 (lim3 T1 (ch (k + 1) - 48)) Y_48 (by omega) hr3 (hMSs.eq1 (eq_lim1 _ _).1 (eq_lim1 _ _).2 (by omega)) hMFc (Or.inr ⟨rfl, Or.inr ⟨nU_eq, fun hlt => by omega⟩⟩) (by omega) _ _ _ hP hS (lv_sub hl [4, 0, 1] rfl)
                        · skip
                          exfalso; omega
                      · skip
                        refine lv_aload_n hxx hbb dX6_read_179 rfl (lv_at hl 3 rfl) ?_
                        refine zgX6_7 S hK hP 102 (by decide) zk_102 dX6_read_180 ?_
                        refine lv_iload_n hxx hbb dX6_read_183 rfl (lv_at hl 0 rfl) ?_
                        refine zaldN S hK hP 103 40 (by decide) zk_103 zl_103 (by omega) (v := nI (ch (k + 1 + 1))) ((congrFun (hMFc.1 103 (by omega)) _).trans (hch _ (by omega)).1) dX6_read_184 ?_
                        refine lv_bipush (v := nI 48) hxx hbb dX6_read_185 (by decide) ?_
                        refine zcmp_lt (tgt := 221) S (by omega) (by omega) dX6_read_187 (by decide) (fun c_51 => ?_) (fun c_51 => ?_)
                        · skip
                          refine lv_aload_n hxx hbb dX6_read_221 rfl (lv_at hl 3 rfl) ?_
                          refine lv_bipush (v := nI 6) hxx hbb dX6_read_222 (by decide) ?_
                          refine lv_iload hxx hbb dX6_read_224 (lv_at hl 1 rfl) ?_
                          refine ZV.callV S hK hP hS hB (kX6_suffix l G A Y1 6 (ch (k + 1) - 48) T1 (2 * k) (hMS1) (by omega) (hd6)) zwX6_107 zdX6_suffix rfl ⟨Nat.le_trans (by decide) hfr, Nat.le_trans (by decide) hlo⟩ (by decide) (zcK6 zk_102) rfl rfl (Nat.le_of_ble_eq_true rfl) hl.1 dX6_read_226 ⟨Nat.zero_le _, Nat.zero_le _⟩ (fun Y_53 H locs hq_54 hP hS => ?_)
                          obtain ⟨hMSs, hMFs⟩ := hq_54
                          have hMFc := hMFc.trans hMFs
                          refine lv_goto (tgt := 298) hxx hbb dX6_read_229 (by decide) ?_
                          refine lv_iload_n hxx hbb dX6_read_298 rfl (lv_at hl 4 rfl) ?_
                          refine zif_ne (tgt := 308) S (by omega) dX6_read_299 (by decide) (fun c_55 => ?_) (fun c_55 => ?_)
                          · skip
                            refine lv_iconst (v := nI 1) hxx hbb dX6_read_308 (by decide) ?_
                            refine lv_goto (tgt := 313) hxx hbb dX6_read_309 (by decide) ?_
                            refine lv_istore_n (lv' := [(1, .int (nI 1)), (2, .int (nI (k + 1 + 1))), (4, .int (nI (ch (k + 1) - 48))), (3, .int (nI (ch k))), (0, .ref (A 102))]) hxx hbb dX6_read_313 rfl hl (by decide) rfl (fun ls hl => ?_)
                            refine lv_goto (tgt := 19) hxx hbb dX6_read_314 (by decide) ?_
                            exact ih_19 (k + 1 + 1) 1 (lim3 T1 (ch (k + 1) - 48)) Y_53 (by omega) hr3 (hMSs.eq1 (eq_lim1 _ _).1 (eq_lim1 _ _).2 (by omega)) hMFc (Or.inr ⟨rfl, Or.inr ⟨nU_eq, fun hlt => by omega⟩⟩) (by omega) _ _ _ hP hS (lv_sub hl [4, 0, 1] rfl)
                          · skip
                            exfalso; omega
                        · skip
                          refine lv_aload_n hxx hbb dX6_read_190 rfl (lv_at hl 3 rfl) ?_
                          refine zgX6_7 S hK hP 102 (by decide) zk_102 dX6_read_191 ?_
                          refine lv_iload_n hxx hbb dX6_read_194 rfl (lv_at hl 0 rfl) ?_
                          refine zaldN S hK hP 103 40 (by decide) zk_103 zl_103 (by omega) (v := nI (ch (k + 1 + 1))) ((congrFun (hMFc.1 103 (by omega)) _).trans (hch _ (by omega)).1) dX6_read_195 ?_
                          refine lv_bipush (v := nI 57) hxx hbb dX6_read_196 (by decide) ?_
                          refine zcmp_gt (tgt := 221) S (by omega) (by omega) dX6_read_198 (by decide) (fun c_56 => ?_) (fun c_56 => ?_)
                          · skip
                            refine lv_aload_n hxx hbb dX6_read_221 rfl (lv_at hl 3 rfl) ?_
                            refine lv_bipush (v := nI 6) hxx hbb dX6_read_222 (by decide) ?_
                            refine lv_iload hxx hbb dX6_read_224 (lv_at hl 1 rfl) ?_
                            refine ZV.callV S hK hP hS hB (kX6_suffix l G A Y1 6 (ch (k + 1) - 48) T1 (2 * k) (hMS1) (by omega) (hd6)) zwX6_107 zdX6_suffix rfl ⟨Nat.le_trans (by decide) hfr, Nat.le_trans (by decide) hlo⟩ (by decide) (zcK6 zk_102) rfl rfl (Nat.le_of_ble_eq_true rfl) hl.1 dX6_read_226 ⟨Nat.zero_le _, Nat.zero_le _⟩ (fun Y_58 H locs hq_59 hP hS => ?_)
                            obtain ⟨hMSs, hMFs⟩ := hq_59
                            have hMFc := hMFc.trans hMFs
                            refine lv_goto (tgt := 298) hxx hbb dX6_read_229 (by decide) ?_
                            refine lv_iload_n hxx hbb dX6_read_298 rfl (lv_at hl 4 rfl) ?_
                            refine zif_ne (tgt := 308) S (by omega) dX6_read_299 (by decide) (fun c_60 => ?_) (fun c_60 => ?_)
                            · skip
                              refine lv_iconst (v := nI 1) hxx hbb dX6_read_308 (by decide) ?_
                              refine lv_goto (tgt := 313) hxx hbb dX6_read_309 (by decide) ?_
                              refine lv_istore_n (lv' := [(1, .int (nI 1)), (2, .int (nI (k + 1 + 1))), (4, .int (nI (ch (k + 1) - 48))), (3, .int (nI (ch k))), (0, .ref (A 102))]) hxx hbb dX6_read_313 rfl hl (by decide) rfl (fun ls hl => ?_)
                              refine lv_goto (tgt := 19) hxx hbb dX6_read_314 (by decide) ?_
                              exact ih_19 (k + 1 + 1) 1 (lim3 T1 (ch (k + 1) - 48)) Y_58 (by omega) hr3 (hMSs.eq1 (eq_lim1 _ _).1 (eq_lim1 _ _).2 (by omega)) hMFc (Or.inr ⟨rfl, Or.inr ⟨nU_eq, fun hlt => by omega⟩⟩) (by omega) _ _ _ hP hS (lv_sub hl [4, 0, 1] rfl)
                            · skip
                              exfalso; omega
                          · skip
                            refine lv_bipush (v := nI 10) hxx hbb dX6_read_201 (by decide) ?_
                            refine lv_iload hxx hbb dX6_read_203 (lv_at hl 1 rfl) ?_
                            refine zmulN S dX6_read_205 ?_
                            refine lv_aload_n hxx hbb dX6_read_206 rfl (lv_at hl 3 rfl) ?_
                            refine zgX6_7 S hK hP 102 (by decide) zk_102 dX6_read_207 ?_
                            refine lv_iload_n hxx hbb dX6_read_210 rfl (lv_at hl 0 rfl) ?_
                            refine zaldN S hK hP 103 40 (by decide) zk_103 zl_103 (by omega) (v := nI (ch (k + 1 + 1))) ((congrFun (hMFc.1 103 (by omega)) _).trans (hch _ (by omega)).1) dX6_read_211 ?_
                            refine zaddN S dX6_read_212 ?_
                            refine lv_bipush (v := nI 48) hxx hbb dX6_read_213 (by decide) ?_
                            refine zsubN S (by omega) dX6_read_215 ?_
                            refine lv_istore (lv' := [(4, .int (nI (10 * (ch (k + 1) - 48) + (ch (k + 1 + 1)) - 48))), (2, .int (nI (k + 1 + 1))), (3, .int (nI (ch k))), (0, .ref (A 102)), (1, .int (nI a8))]) hxx hbb dX6_read_216 hl (by decide) rfl (fun ls hl => ?_)
                            refine lv_iinc (v := nI (k + 1 + 1 + 1)) (lv' := [(2, .int (nI (k + 1 + 1 + 1))), (4, .int (nI (10 * (ch (k + 1) - 48) + (ch (k + 1 + 1)) - 48))), (3, .int (nI (ch k))), (0, .ref (A 102)), (1, .int (nI a8))]) hxx hbb dX6_read_218 hl (k := 1) rfl (zinc1 _) (by decide) rfl (fun ls hl => ?_)
                            refine lv_aload_n hxx hbb dX6_read_221 rfl (lv_at hl 3 rfl) ?_
                            refine lv_bipush (v := nI 6) hxx hbb dX6_read_222 (by decide) ?_
                            refine lv_iload hxx hbb dX6_read_224 (lv_at hl 1 rfl) ?_
                            refine ZV.callV S hK hP hS hB (kX6_suffix l G A Y1 6 (10 * (ch (k + 1) - 48) + (ch (k + 1 + 1)) - 48) T1 (2 * k) (hMS1) (by omega) (hd6)) zwX6_107 zdX6_suffix rfl ⟨Nat.le_trans (by decide) hfr, Nat.le_trans (by decide) hlo⟩ (by decide) (zcK6 zk_102) rfl rfl (Nat.le_of_ble_eq_true rfl) hl.1 dX6_read_226 ⟨Nat.zero_le _, Nat.zero_le _⟩ (fun Y_62 H locs hq_63 hP hS => ?_)
                            obtain ⟨hMSs, hMFs⟩ := hq_63
                            have hMFc := hMFc.trans hMFs
                            refine lv_goto (tgt := 298) hxx hbb dX6_read_229 (by decide) ?_
                            refine lv_iload_n hxx hbb dX6_read_298 rfl (lv_at hl 4 rfl) ?_
                            refine zif_ne (tgt := 308) S (by omega) dX6_read_299 (by decide) (fun c_64 => ?_) (fun c_64 => ?_)
                            · skip
                              refine lv_iconst (v := nI 1) hxx hbb dX6_read_308 (by decide) ?_
                              refine lv_goto (tgt := 313) hxx hbb dX6_read_309 (by decide) ?_
                              refine lv_istore_n (lv' := [(1, .int (nI 1)), (2, .int (nI (k + 1 + 1 + 1))), (4, .int (nI (10 * (ch (k + 1) - 48) + (ch (k + 1 + 1)) - 48))), (3, .int (nI (ch k))), (0, .ref (A 102))]) hxx hbb dX6_read_313 rfl hl (by decide) rfl (fun ls hl => ?_)
                              refine lv_goto (tgt := 19) hxx hbb dX6_read_314 (by decide) ?_
                              exact ih_19 (k + 1 + 1 + 1) 1 (nU (nU (lim3 T1 (ch (k + 1) - 48)) 3 (lim3 T1 (ch (k + 1) - 48) 4 (lim3 T1 (ch (k + 1) - 48) 0 1) - 1) (lim3 T1 (ch (k + 1) - 48) 0 5 * 10 + (ch (k + 1 + 1) - 48))) 0 0 1) Y_62 (by omega) ((run_go hUn (by omega) hr3).2.trans (congrArg some (sAct_6 nU_eq (by omega)))) (hMSs.eq1 (eq_lim2 T1 (ch (k + 1) - 48) (ch (k + 1 + 1) - 48) _ (by omega)).1 (eq_lim2 T1 (ch (k + 1) - 48) (ch (k + 1 + 1) - 48) _ (by omega)).2 (by omega)) hMFc (Or.inr ⟨rfl, Or.inl nU_eq⟩) (by omega) _ _ _ hP hS (lv_sub hl [4, 0, 1] rfl)
                            · skip
                              exfalso; omega
                  · skip
                    obtain ⟨ha1, hs16⟩ := a1_of hgo.1 (by omega) hst2
                    have hMS1 : MS (2 * k) Y1 T1 1 := ha1 ▸ hMS
                    refine lv_aload_n hxx hbb dX6_read_122 rfl (lv_at hl 2 rfl) ?_
                    refine lv_iload_n hxx hbb dX6_read_123 rfl (lv_at hl 1 rfl) ?_
                    refine lv_bipush (v := nI 42) hxx hbb dX6_read_124 (by decide) ?_
                    refine zcmp_ne (tgt := 133) S (by omega) (by omega) dX6_read_126 (by decide) (fun c_65 => ?_) (fun c_65 => ?_)
                    · skip
                      refine lv_iload_n hxx hbb dX6_read_133 rfl (lv_at hl 1 rfl) ?_
                      refine lv_bipush (v := nI 43) hxx hbb dX6_read_134 (by decide) ?_
                      refine zcmp_ne (tgt := 143) S (by omega) (by omega) dX6_read_136 (by decide) (fun c_66 => ?_) (fun c_66 => ?_)
                      · skip
                        refine lv_iconst (v := nI 5) hxx hbb dX6_read_143 (by decide) ?_
                        refine lv_iconst (v := nI 0) hxx hbb dX6_read_144 (by decide) ?_
                        refine ZV.callV S hK hP hS hB (kX6_suffix l G A Y1 5 0 T1 (2 * k) (hMS1) (by omega) (hd6)) zwX6_107 zdX6_suffix rfl ⟨Nat.le_trans (by decide) hfr, Nat.le_trans (by decide) hlo⟩ (by decide) (zcK6 zk_102) rfl rfl (Nat.le_of_ble_eq_true rfl) hl.1 dX6_read_145 ⟨Nat.zero_le _, Nat.zero_le _⟩ (fun Y_68 H locs hq_69 hP hS => ?_)
                        obtain ⟨hMSs, hMFs⟩ := hq_69
                        have hMFc := hMFc.trans hMFs
                        refine lv_goto (tgt := 298) hxx hbb dX6_read_148 (by decide) ?_
                        refine lv_iload_n hxx hbb dX6_read_298 rfl (lv_at hl 3 rfl) ?_
                        refine zif_ne (tgt := 308) S (by omega) dX6_read_299 (by decide) (fun c_70 => ?_) (fun c_70 => ?_)
                        · skip
                          refine lv_iconst (v := nI 1) hxx hbb dX6_read_308 (by decide) ?_
                          refine lv_goto (tgt := 313) hxx hbb dX6_read_309 (by decide) ?_
                          refine lv_istore_n (lv' := [(1, .int (nI 1)), (2, .int (nI (k + 1))), (3, .int (nI (ch k))), (0, .ref (A 102))]) hxx hbb dX6_read_313 rfl hl (by decide) rfl (fun ls hl => ?_)
                          refine lv_goto (tgt := 19) hxx hbb dX6_read_314 (by decide) ?_
                          exact ih_19 (k + 1) 1 (sSuf T1 5 0) Y_68 (by omega) (hgo.2.trans (congrArg some ((sAct_x hs16).trans (sSufx_5 (by omega))))) (hMSs.mono (by omega)) hMFc (Or.inr ⟨rfl, Or.inl sSuf_s.1⟩) (by omega) _ _ _ hP hS (lv_sub hl [3, 0, 1] rfl)
                        · skip
                          exfalso; omega
                      · skip
                        exfalso; omega
                    · skip
                      exfalso; omega
            · skip
              obtain ⟨ha1, hs16⟩ := a1_of hgo.1 (by omega) hst2
              have hMS1 : MS (2 * k) Y1 T1 1 := ha1 ▸ hMS
              have hd1 := d_of hgo.1 (by omega) hs16
              refine lv_aload_n hxx hbb dX6_read_86 rfl (lv_at hl 2 rfl) ?_
              refine lv_iconst (v := nI 2) hxx hbb dX6_read_87 (by decide) ?_
              refine ZV.callV S hK hP hS hB (kX6_join l G A Y1 2 T1 (2 * k) (hMS1) (by omega) (hd6) (by omega)) zwX6_92 zdX6_join rfl ⟨Nat.le_trans (by decide) hfr, Nat.le_trans (by decide) hlo⟩ (by decide) (zcK6 zk_102) rfl rfl (Nat.le_of_ble_eq_true rfl) hl.1 dX6_read_88 ⟨Nat.zero_le _, Nat.zero_le _⟩ (fun Y_72 H locs hq_73 hP hS => ?_)
              obtain ⟨hMSj, hMFj⟩ := hq_73
              have hMSr : MS (2 * k) Y_72 (jO (jR T1)) 1 := hMSj
              have hMFc := hMFc.trans hMFj
              have hjo := jOR_f T1
              obtain ⟨hla, hlb, hlc⟩ := hMSr.lo (by rw [hjo.1]; exact hd6)
              have hq1 : 1 ≤ qT (jO (jR T1)) := by rcases hMSr.tB (by rw [hjo.1]; exact hjo.2.1) (by rw [hjo.1]; exact hjo.2.2.1) with h | h; rw [hjo.1] at h; omega; exact h.2.1
              refine lv_aload_n hxx hbb dX6_read_91 rfl (lv_at hl 2 rfl) ?_
              refine lv_dup hxx hbb dX6_read_92 rfl ?_
              refine zgX6_85 S hK hP 102 (by decide) zk_102 (v := nI (qT (jO (jR T1)))) (hMSr.2.1.1) dX6_read_93 ?_
              refine lv_iconst (v := nI 1) hxx hbb dX6_read_96 (by decide) ?_
              refine zsubN S (by omega) dX6_read_97 ?_
              refine zpX6_85 S hK hP hS hB 102 (by decide) zk_102 dX6_read_98 (fun H locs hP hS => ?_)
              refine lv_goto (tgt := 298) hxx hbb dX6_read_101 (by decide) ?_
              refine lv_iload_n hxx hbb dX6_read_298 rfl (lv_at hl 3 rfl) ?_
              refine zif_ne (tgt := 308) S (by omega) dX6_read_299 (by decide) (fun c_74 => ?_) (fun c_74 => ?_)
              · skip
                refine lv_iconst (v := nI 1) hxx hbb dX6_read_308 (by decide) ?_
                refine lv_goto (tgt := 313) hxx hbb dX6_read_309 (by decide) ?_
                refine lv_istore_n (lv' := [(1, .int (nI 1)), (2, .int (nI (k + 1))), (3, .int (nI (ch k))), (0, .ref (A 102))]) hxx hbb dX6_read_313 rfl hl (by decide) rfl (fun ls hl => ?_)
                refine lv_goto (tgt := 19) hxx hbb dX6_read_314 (by decide) ?_
                exact ih_19 (k + 1) 1 (sClose (sItem T1)) (zU Y_72 102 10 (nI (qT (jO (jR T1)) - 1))) (by omega) (hgo.2.trans (congrArg some ((sAct_x hs16).trans (sSufx_cl (by omega))))) (hMSr.clo hd1 (by omega)) (hMFc.f (by omega)) (Or.inr ⟨rfl, Or.inl sClose_s.1⟩) (by omega) _ _ _ hP hS (lv_sub hl [3, 0, 1] rfl)
              · skip
                exfalso; omega
          · skip
            refine lv_aload_n hxx hbb dX6_read_64 rfl (lv_at hl 2 rfl) ?_
            refine lv_iload_n hxx hbb dX6_read_65 rfl (lv_at hl 3 rfl) ?_
            refine ZV.callV S hK hP hS hB (kX6_item l G A Y1 a8 T1 (2 * k) (hMS) (by omega) hd6 (by omega) hl4) zwX6_103 zdX6_item rfl ⟨Nat.le_trans (by decide) hfr, Nat.le_trans (by decide) hlo⟩ (by decide) (zcK6 zk_102) rfl rfl (Nat.le_of_ble_eq_true rfl) hl.1 dX6_read_66 ⟨Nat.zero_le _, Nat.zero_le _⟩ (fun Y_76 H locs hq_77 hP hS => ?_)
            obtain ⟨hMSi, hMFi⟩ := hq_77
            have hMSp : MS (2 * k) Y_76 (pI a8 T1) 0 := hMSi
            have hMFc := hMFc.trans hMFi
            obtain ⟨hla, hlb, hlc⟩ := hMSp.lo (by rw [pI_d (by decide)]; exact hd6)
            refine lv_aload_n hxx hbb dX6_read_69 rfl (lv_at hl 2 rfl) ?_
            refine lv_bipush (v := nI 7) hxx hbb dX6_read_70 (by decide) ?_
            refine ZV.callV S hK hP hS hB (kX6_hold l G A Y_76 (qT (pI a8 T1)) 7 (hMSp.2.1.1) (by omega)) zwX6_96 zdX6_hold rfl ⟨Nat.le_trans (by decide) hfr, Nat.le_trans (by decide) hlo⟩ (by decide) (zcK6 zk_102) rfl rfl (Nat.le_of_ble_eq_true rfl) hl.1 dX6_read_72 ⟨Nat.zero_le _, Nat.zero_le _⟩ (fun Y_79 H locs hq_80 hP hS => ?_)
            rw [hq_80] at hP
            refine lv_iconst (v := nI 0) hxx hbb dX6_read_75 (by decide) ?_
            refine lv_istore_n (lv' := [(1, .int (nI 0)), (2, .int (nI (k + 1))), (3, .int (nI (ch k))), (0, .ref (A 102))]) hxx hbb dX6_read_76 rfl hl (by decide) rfl (fun ls hl => ?_)
            refine lv_goto (tgt := 298) hxx hbb dX6_read_77 (by decide) ?_
            refine lv_iload_n hxx hbb dX6_read_298 rfl (lv_at hl 0 rfl) ?_
            refine zif_ne (tgt := 308) S (by omega) dX6_read_299 (by decide) (fun c_81 => ?_) (fun c_81 => ?_)
            · skip
              exact absurd c_81 (by decide)
            · skip
              refine lv_iload_n hxx hbb dX6_read_302 rfl (lv_at hl 2 rfl) ?_
              refine lv_bipush (v := nI 41) hxx hbb dX6_read_303 (by decide) ?_
              refine zcmp_ne (tgt := 312) S (by omega) (by omega) dX6_read_305 (by decide) (fun c_82 => ?_) (fun c_82 => ?_)
              · skip
                refine lv_iconst (v := nI 0) hxx hbb dX6_read_312 (by decide) ?_
                refine lv_istore_n (lv' := [(1, .int (nI 0)), (2, .int (nI (k + 1))), (3, .int (nI (ch k))), (0, .ref (A 102))]) hxx hbb dX6_read_313 rfl hl (by decide) rfl (fun ls hl => ?_)
                refine lv_goto (tgt := 19) hxx hbb dX6_read_314 (by decide) ?_
                exact ih_19 (k + 1) 0 (sOpen (pI a8 T1)) (zU (zU Y_76 110 (qT (pI a8 T1)) (nI 7)) 102 10 (nI (qT (pI a8 T1) + 1))) (by omega) (hgo.2.trans (congrArg some ((sAct_at hst2 (by omega)).trans (sAt_op (by omega))))) ((hMSp.hb).mono (by omega)) ((hMFc.r (by omega)).f (by omega)) (Or.inl ⟨rfl, sOpen_s.1⟩) (by omega) _ _ _ hP hS (lv_sub hl [3, 0, 1] rfl)
              · skip
                exfalso; omega
        · skip
          obtain ⟨ha1, hs16⟩ := a1_of hgo.1 (by omega) hst2
          have hMS1 : MS (2 * k) Y1 T1 1 := ha1 ▸ hMS
          refine lv_aload_n hxx hbb dX6_read_43 rfl (lv_at hl 2 rfl) ?_
          refine lv_iconst (v := nI 2) hxx hbb dX6_read_44 (by decide) ?_
          refine ZV.callV S hK hP hS hB (kX6_join l G A Y1 2 T1 (2 * k) (hMS1) (by omega) (hd6) (by omega)) zwX6_92 zdX6_join rfl ⟨Nat.le_trans (by decide) hfr, Nat.le_trans (by decide) hlo⟩ (by decide) (zcK6 zk_102) rfl rfl (Nat.le_of_ble_eq_true rfl) hl.1 dX6_read_45 ⟨Nat.zero_le _, Nat.zero_le _⟩ (fun Y_84 H locs hq_85 hP hS => ?_)
          obtain ⟨hMSj, hMFj⟩ := hq_85
          have hMSr : MS (2 * k) Y_84 (jO (jR T1)) 1 := hMSj
          have hMFc := hMFc.trans hMFj
          have hjo := jOR_f T1
          obtain ⟨hla, hlb, hlc⟩ := hMSr.lo (by rw [hjo.1]; exact hd6)
          refine lv_aload_n hxx hbb dX6_read_48 rfl (lv_at hl 2 rfl) ?_
          refine lv_iconst (v := nI 2) hxx hbb dX6_read_49 (by decide) ?_
          refine ZV.callV S hK hP hS hB (kX6_hold l G A Y_84 (qT (jO (jR T1))) 2 (hMSr.2.1.1) (by omega)) zwX6_96 zdX6_hold rfl ⟨Nat.le_trans (by decide) hfr, Nat.le_trans (by decide) hlo⟩ (by decide) (zcK6 zk_102) rfl rfl (Nat.le_of_ble_eq_true rfl) hl.1 dX6_read_50 ⟨Nat.zero_le _, Nat.zero_le _⟩ (fun Y_87 H locs hq_88 hP hS => ?_)
          rw [hq_88] at hP
          refine lv_iconst (v := nI 0) hxx hbb dX6_read_53 (by decide) ?_
          refine lv_istore_n (lv' := [(1, .int (nI 0)), (2, .int (nI (k + 1))), (3, .int (nI (ch k))), (0, .ref (A 102))]) hxx hbb dX6_read_54 rfl hl (by decide) rfl (fun ls hl => ?_)
          refine lv_goto (tgt := 298) hxx hbb dX6_read_55 (by decide) ?_
          refine lv_iload_n hxx hbb dX6_read_298 rfl (lv_at hl 0 rfl) ?_
          refine zif_ne (tgt := 308) S (by omega) dX6_read_299 (by decide) (fun c_89 => ?_) (fun c_89 => ?_)
          · skip
            exact absurd c_89 (by decide)
          · skip
            refine lv_iload_n hxx hbb dX6_read_302 rfl (lv_at hl 2 rfl) ?_
            refine lv_bipush (v := nI 41) hxx hbb dX6_read_303 (by decide) ?_
            refine zcmp_ne (tgt := 312) S (by omega) (by omega) dX6_read_305 (by decide) (fun c_90 => ?_) (fun c_90 => ?_)
            · skip
              refine lv_iconst (v := nI 0) hxx hbb dX6_read_312 (by decide) ?_
              refine lv_istore_n (lv' := [(1, .int (nI 0)), (2, .int (nI (k + 1))), (3, .int (nI (ch k))), (0, .ref (A 102))]) hxx hbb dX6_read_313 rfl hl (by decide) rfl (fun ls hl => ?_)
              refine lv_goto (tgt := 19) hxx hbb dX6_read_314 (by decide) ?_
              exact ih_19 (k + 1) 0 (nU (sRow (sItem T1)) 0 0 0) (zU (zU Y_84 110 (qT (jO (jR T1))) (nI 2)) 102 10 (nI (qT (jO (jR T1)) + 1))) (by omega) (hgo.2.trans (congrArg some ((sAct_x hs16).trans (sSufx_or (by omega))))) (hMSr.or (hl4 ha1) (by omega)) ((hMFc.r (by omega)).f (by omega)) (Or.inl ⟨rfl, nU_eq⟩) (by omega) _ _ _ hP hS (lv_sub hl [3, 0, 1] rfl)
            · skip
              exfalso; omega
  exact L_19 (_ + 1) 0 0 S0 (zU (zU (zU Y 102 6 (nI 0)) 102 10 (nI 0)) 102 12 (nI 0)) (by omega) rfl (ms_0 hG) (((MF.rf.f (by omega)).f (by omega)).f (by omega)) (Or.inl ⟨rfl, hG.1⟩) (Nat.lt_succ_self _) _ _ _ hP hS (lv_sub hl [2, 1, 0] rfl)
