theorem chr_nar {v : Nat} (h : v < 65536) : narrow .char (.int (nI v)) = .int (nI v) := (pk_charN h).1
theorem chr_vp {v : Nat} (h : v < 65536) : vp_nar .char (nI v) = nI v := by
  have := (pk_charN h).1
  unfold vp_nar; rw [this]
/-- the Letters at q hold n letters t -/
def LT (Y : zY) (q n : Nat) (t : Nat → Nat) : Prop := n ≤ 24 ∧ Y q 1 = nI n ∧ (∀ i, i < n → Y (q + 1) i = nI (t i)) ∧ ∀ i, i < n → 97 ≤ t i ∧ t i ≤ 122
/-- only the Letters at q may have changed -/
def KL (Y Z : zY) (q : Nat) : Prop := ∀ a, a ≠ q → a ≠ q + 1 → Z a = Y a
theorem KL.clear {Y : zY} {q : Nat} {v : Int32} : KL Y (zU Y q 1 v) q := fun a h _ => zU_row h
theorem KL.app {Y Z : zY} {q k : Nat} {u v : Int32} (h : KL Y Z q) : KL Y (zU (zU Z (q + 1) k u) q 1 v) q := fun a h1 h2 => (zU_row h1).trans ((zU_row h2).trans (h a h1 h2))
/-- what compareWith answers of a (n) and b (m) -/
def CW (a : Nat → Nat) (n : Nat) (b : Nat → Nat) (m : Nat) (r : Int32) : Prop := (r = 0 ∧ n = m ∧ ∀ i, i < n → a i = b i) ∨ (r < 0 ∧ LX a n b m) ∨ (¬ r < 0 ∧ r ≠ 0 ∧ ¬ LX a n b m ∧ ¬ (n = m ∧ ∀ i, i < n → a i = b i))
theorem sub_neg {a b : Nat} (ha : a < 2 ^ 30) (hb : b < 2 ^ 30) : (nI a - nI b < 0 ↔ a < b) ∧ (nI a - nI b = 0 ↔ a = b) := by
  have h := pk_sub_toInt (a := a) (b := b) ha hb
  constructor
  · rw [Int32.lt_iff_toInt_lt, h]
    show (a : Int) - b < 0 ↔ _
    omega
  · rw [← Int32.toInt_inj, h]
    show (a : Int) - b = 0 ↔ _
    omega
theorem CW_end {a b : Nat → Nat} {n m k : Nat} (hn : n ≤ 24) (hm : m ≤ 24) (hk : k = min n m) (he : ∀ i, i < k → a i = b i) : CW a n b m (nI n - nI m) := by
  have h := sub_neg (a := n) (b := m) (by omega) (by omega)
  have h2 := LX_end (a := a) (b := b) (n := n) (m := m) (k := k) (by omega) (by omega) he (by omega)
  rcases Nat.lt_trichotomy n m with e | e | e
  · exact Or.inr (Or.inl ⟨h.1.mpr e, h2.mpr e⟩)
  · exact Or.inl ⟨h.2.mpr e, e, fun i hi => he i (by omega)⟩
  · exact Or.inr (Or.inr ⟨fun q => by have := h.1.mp q; omega, fun q => by have := h.2.mp q; omega, fun q => by have := h2.mp q; omega, fun q => by omega⟩)
theorem CW_at {a b : Nat → Nat} {n m k : Nat} (h1 : k < n) (h2 : k < m) (ha : a k < 2 ^ 30) (hb : b k < 2 ^ 30) (he : ∀ i, i < k → a i = b i) (hne : nI (a k) - nI (b k) ≠ 0) : CW a n b m (nI (a k) - nI (b k)) := by
  have h := sub_neg (a := a k) (b := b k) ha hb
  have hne2 : a k ≠ b k := fun e => hne (h.2.mpr e)
  have h3 := LX_at (n := n) (m := m) h1 h2 he hne2
  by_cases e : a k < b k
  · exact Or.inr (Or.inl ⟨h.1.mpr e, h3.mpr e⟩)
  · exact Or.inr (Or.inr ⟨fun q => e (h.1.mp q), hne, fun q => e (h3.mp q), fun q => hne2 (q.2 k h1)⟩)
set_option maxHeartbeats 4000000 in
set_option maxRecDepth 100000 in
theorem kX3_letterAt (l : Launch) (G : zG) (A : Nat → Nat) (Y : zY) (po n i ch : Nat) (hpo : zLP po) (h1 : Y po 1 = nI n) (hn : n ≤ 24) (hi : i < n) (hc : Y (po + 1) i = nI ch) (hch : ch < 65536) : ZI l yX3_letterAt cX3_letterAt 2 (.char) 0 0 G A Y [.ref (A po), .int (nI i)] (fun r Y' => r = nI ch ∧ Y' = Y) := by
  refine ZI.enter (by decide) (Nat.le_of_ble_eq_true rfl) ?_
  intro p e s m args below meth c R Q hxx hbb S hK hfr hlo hret H ls hP hS hl
  have hB : ∀ q, zAd A q → zAd A q := fun _ h => h
  have hl : lv_has ls 2 [(0, .ref (A po)), (1, .int (nI i))] := hl
  have S : CallFix p m c cX3_letterAt 2 s args wsL_law RX3 := S
  obtain ⟨hp1, hz, hz1, hzl⟩ := hpo
  refine lv_iload_n hxx hbb dX3_letterAt_0 rfl (lv_at hl 1 rfl) ?_
  refine zif_lt S (by omega) dX3_letterAt_1 ⟨21, by decide⟩ ?_
  refine lv_iload_n hxx hbb dX3_letterAt_4 rfl (lv_at hl 1 rfl) ?_
  refine lv_aload_n hxx hbb dX3_letterAt_5 rfl (lv_at hl 0 rfl) ?_
  refine zgX3_15 S hK hP po (Nat.lt_of_succ_lt hp1) hz (v := nI n) (h1) dX3_letterAt_6 ?_
  refine zcmp_ge (tgt := 21) S (by omega) (by omega) dX3_letterAt_9 (by decide) (fun c_2 => ?_) (fun c_2 => ?_)
  · skip
    exfalso; omega
  · skip
    refine lv_aload_n hxx hbb dX3_letterAt_12 rfl (lv_at hl 0 rfl) ?_
    refine zgX3_9 S hK hP po (Nat.lt_of_succ_lt hp1) hz dX3_letterAt_13 ?_
    refine lv_iload_n hxx hbb dX3_letterAt_16 rfl (lv_at hl 1 rfl) ?_
    refine zcaldN S hK hP (po + 1) 24 hp1 hz1 hzl (by omega) (v := nI ch) (hc) dX3_letterAt_17 ?_
    refine lv_goto (tgt := 22) hxx hbb dX3_letterAt_18 (by decide) ?_
    exact hret _ _ _ _ _ _ dX3_letterAt_22 (chr_nar (by omega)) hP hS (⟨rfl, rfl⟩)

set_option maxHeartbeats 4000000 in
set_option maxRecDepth 100000 in
theorem kX3_clear (l : Launch) (G : zG) (A : Nat → Nat) (Y : zY) (po : Nat) (hpo : zLP po) : ZV l yX3_clear cX3_clear 1 0 0 G A Y [.ref (A po)] (fun Y' => Y' = zU Y po 1 (nI 0)) := by
  refine ZV.enter (by decide) (Nat.le_of_ble_eq_true rfl) ?_
  intro p e s m args below meth c R Q hxx hbb S hK hfr hlo hret H ls hP hS hl
  have hB : ∀ q, zAd A q → zAd A q := fun _ h => h
  have hl : lv_has ls 1 [(0, .ref (A po))] := hl
  have S : CallFix p m c cX3_clear 1 s args wsL_law RX3 := S
  obtain ⟨hp1, hz, hz1, hzl⟩ := hpo
  refine lv_aload_n hxx hbb dX3_clear_0 rfl (lv_at hl 0 rfl) ?_
  refine lv_iconst (v := nI 0) hxx hbb dX3_clear_1 (by decide) ?_
  refine zpX3_15 S hK hP hS hB po (Nat.lt_of_succ_lt hp1) hz dX3_clear_2 (fun H locs hP hS => ?_)
  exact hret _ _ _ _ _ dX3_clear_5 hP hS (rfl)

set_option maxHeartbeats 4000000 in
set_option maxRecDepth 100000 in
theorem kX3_append (l : Launch) (G : zG) (A : Nat → Nat) (Y : zY) (po n ch : Nat) (hpo : zLP po) (h1 : Y po 1 = nI n) (hn : n < 24) (hch : ch < 65536) : ZV l yX3_append cX3_append 2 0 0 G A Y [.ref (A po), .int (nI ch)] (fun Y' => Y' = zU (zU Y (po + 1) n (nI ch)) po 1 (nI (n + 1))) := by
  refine ZV.enter (by decide) (Nat.le_of_ble_eq_true rfl) ?_
  intro p e s m args below meth c R Q hxx hbb S hK hfr hlo hret H ls hP hS hl
  have hB : ∀ q, zAd A q → zAd A q := fun _ h => h
  have hl : lv_has ls 2 [(0, .ref (A po)), (1, .int (nI ch))] := hl
  have S : CallFix p m c cX3_append 2 s args wsL_law RX3 := S
  obtain ⟨hp1, hz, hz1, hzl⟩ := hpo
  refine lv_aload_n hxx hbb dX3_append_0 rfl (lv_at hl 0 rfl) ?_
  refine zgX3_15 S hK hP po (Nat.lt_of_succ_lt hp1) hz (v := nI n) (h1) dX3_append_1 ?_
  refine lv_aload_n hxx hbb dX3_append_4 rfl (lv_at hl 0 rfl) ?_
  refine zgX3_9 S hK hP po (Nat.lt_of_succ_lt hp1) hz dX3_append_5 ?_
  refine zalenC S hK hP (po + 1) 24 hp1 hz1 hzl dX3_append_8 ?_
  refine zcmp_ge (tgt := 32) S (by omega) (by omega) dX3_append_9 (by decide) (fun c_1 => ?_) (fun c_1 => ?_)
  · skip
    exfalso; omega
  · skip
    refine lv_aload_n hxx hbb dX3_append_12 rfl (lv_at hl 0 rfl) ?_
    refine zgX3_9 S hK hP po (Nat.lt_of_succ_lt hp1) hz dX3_append_13 ?_
    refine lv_aload_n hxx hbb dX3_append_16 rfl (lv_at hl 0 rfl) ?_
    refine zgX3_15 S hK hP po (Nat.lt_of_succ_lt hp1) hz (v := nI n) (h1) dX3_append_17 ?_
    refine lv_iload_n hxx hbb dX3_append_20 rfl (lv_at hl 1 rfl) ?_
    refine zcastN S hK hP hS hB (po + 1) 24 hp1 hz1 hzl (by omega) (chr_vp hch) dX3_append_21 (fun H locs hP hS => ?_)
    refine lv_aload_n hxx hbb dX3_append_22 rfl (lv_at hl 0 rfl) ?_
    refine lv_dup hxx hbb dX3_append_23 rfl ?_
    refine zgX3_15 S hK hP po (Nat.lt_of_succ_lt hp1) hz (v := nI n) ((zU_np (by omega)).trans (h1)) dX3_append_24 ?_
    refine lv_iconst (v := nI 1) hxx hbb dX3_append_27 (by decide) ?_
    refine zaddN S dX3_append_28 ?_
    refine zpX3_15 S hK hP hS hB po (Nat.lt_of_succ_lt hp1) hz dX3_append_29 (fun H locs hP hS => ?_)
    exact hret _ _ _ _ _ dX3_append_32 hP hS (rfl)

set_option maxHeartbeats 4000000 in
set_option maxRecDepth 100000 in
theorem kX3_copyFrom (l : Launch) (G : zG) (A : Nat → Nat) (Y : zY) (po po1 n : Nat) (t : Nat → Nat) (hpo : zLP po) (hpo1 : zLP po1) (hne : po ≠ po1 ∧ po ≠ po1 + 1 ∧ po + 1 ≠ po1) (hL : LT Y po1 n t) : ZV l yX3_copyFrom cX3_copyFrom 3 1 21 G A Y [.ref (A po), .ref (A po1)] (fun Y' => LT Y' po n t ∧ KL Y Y' po) := by
  refine ZV.enter (by decide) (Nat.le_of_ble_eq_true rfl) ?_
  intro p e s m args below meth c R Q hxx hbb S hK hfr hlo hret H ls hP hS hl
  have hB : ∀ q, zAd A q → zAd A q := fun _ h => h
  have hl : lv_has ls 3 [(0, .ref (A po)), (1, .ref (A po1))] := hl
  have S : CallFix p m c cX3_copyFrom 3 s args wsL_law RX3 := S
  have hpo9 := hpo
  obtain ⟨hp1, hz, hz1, hzl⟩ := hpo
  obtain ⟨hq1, gz, gz1, gzl⟩ := id hpo1
  have hn := hL.1
  refine lv_aload_n hxx hbb dX3_copyFrom_0 rfl (lv_at hl 0 rfl) ?_
  refine ZV.callV S hK hP hS hB (kX3_clear l G A Y po hpo9) zwX3_19 zdX3_clear rfl ⟨Nat.le_trans (by decide) hfr, Nat.le_trans (by decide) hlo⟩ (Nat.lt_of_succ_lt hp1) (zcK3 hz) rfl rfl (Nat.le_of_ble_eq_true rfl) hl.1 dX3_copyFrom_1 ⟨Nat.zero_le _, Nat.zero_le _⟩ (fun Y_2 H locs hq_3 hP hS => ?_)
  rw [hq_3] at hP
  refine lv_iconst (v := nI 0) hxx hbb dX3_copyFrom_4 (by decide) ?_
  refine lv_istore_n (lv' := [(2, .int (nI 0)), (0, .ref (A po)), (1, .ref (A po1))]) hxx hbb dX3_copyFrom_5 rfl hl (by decide) rfl (fun ls hl => ?_)
  have L_6 : ∀ (N_6 : Nat) (k : Nat) (Y1 : zY) (hk : k ≤ n) (hK2 : KL Y Y1 po) (hc1 : Y1 po 1 = nI k) (hc2 : ∀ i, i < k → Y1 (po + 1) i = nI (t i)), n - k < N_6 → ∀ (H : Heap) (locs : List Loc) (ls : Array Slot), va_P G.1 vwCl (zW G A Y1) H → va_S (zAd A) s.heap H locs → lv_has ls 3 [(0, .ref (A po)), (1, .ref (A po1)), (2, .int (nI k))] → W p l e R s m args below meth c H locs 0 0 Q (F0 m 6 ls []) := by
    intro N_6
    induction N_6 with
    | zero => intro k Y1 hk hK2 hc1 hc2 hm; exact absurd hm (Nat.not_lt_zero _)
    | succ N_6 ih_6 =>
      intro k Y1 hk hK2 hc1 hc2 hm_6 H locs ls hP hS hl
      refine lv_iload_n hxx hbb dX3_copyFrom_6 rfl (lv_at hl 2 rfl) ?_
      refine lv_aload_n hxx hbb dX3_copyFrom_7 rfl (lv_at hl 1 rfl) ?_
      refine zgX3_15 S hK hP po1 (Nat.lt_of_succ_lt hq1) gz (v := nI n) ((congrFun (hK2 po1 (by omega) (by omega)) 1).trans hL.2.1) dX3_copyFrom_8 ?_
      refine zcmp_ge (tgt := 29) S (by omega) (by omega) dX3_copyFrom_11 (by decide) (fun c_4 => ?_) (fun c_4 => ?_)
      · skip
        exact hret _ _ _ _ _ dX3_copyFrom_29 hP hS (⟨⟨hn, by rw [hc1, show k = n by omega], by rw [← show k = n by omega]; exact hc2, hL.2.2.2⟩, hK2⟩)
      · skip
        refine lv_aload_n hxx hbb dX3_copyFrom_14 rfl (lv_at hl 0 rfl) ?_
        refine lv_aload_n hxx hbb dX3_copyFrom_15 rfl (lv_at hl 1 rfl) ?_
        refine lv_iload_n hxx hbb dX3_copyFrom_16 rfl (lv_at hl 2 rfl) ?_
        refine ZI.callV S hK hP hS hB (kX3_letterAt l G A Y1 po1 n k (t k) hpo1 ((congrFun (hK2 po1 (by omega) (by omega)) 1).trans hL.2.1) (by omega) (by omega) ((congrFun (hK2 (po1 + 1) (by omega) (by omega)) k).trans (hL.2.2.1 k (by omega))) (by have := hL.2.2.2 k (by omega); omega)) zwX3_22 zdX3_letterAt rfl ⟨Nat.le_trans (by decide) hfr, Nat.le_trans (by decide) hlo⟩ (Nat.lt_of_succ_lt hq1) (zcK3 gz) rfl rfl (Nat.le_of_ble_eq_true rfl) hl.1 dX3_copyFrom_17 ⟨Nat.zero_le _, Nat.zero_le _⟩ (fun r_5 Y_6 H locs hq_7 hP hS => ?_)
        obtain ⟨hr9, hY9⟩ := hq_7
        subst hr9; rw [hY9] at hP
        have ht9 := hL.2.2.2 k (by omega)
        refine ZV.callV S hK hP hS hB (kX3_append l G A Y1 po k (t k) hpo9 hc1 (by omega) (by omega)) zwX3_26 zdX3_append rfl ⟨Nat.le_trans (by decide) hfr, Nat.le_trans (by decide) hlo⟩ (Nat.lt_of_succ_lt hp1) (zcK3 hz) rfl rfl (Nat.le_of_ble_eq_true rfl) hl.1 dX3_copyFrom_20 ⟨Nat.zero_le _, Nat.zero_le _⟩ (fun Y_9 H locs hq_10 hP hS => ?_)
        rw [hq_10] at hP
        refine lv_iinc (v := nI (k + 1)) (lv' := [(2, .int (nI (k + 1))), (0, .ref (A po)), (1, .ref (A po1))]) hxx hbb dX3_copyFrom_23 hl (k := 2) rfl (zinc1 _) (by decide) rfl (fun ls hl => ?_)
        refine lv_goto (tgt := 6) hxx hbb dX3_copyFrom_26 (by decide) ?_
        exact ih_6 (k + 1) (zU (zU Y1 (po + 1) k (nI (t k))) po 1 (nI (k + 1))) (by omega) hK2.app zU_eq (fun i hi => (zU_np (by omega)).trans ((Nat.lt_succ_iff_lt_or_eq.mp hi).elim (fun h => (zU_nj (by omega)).trans (hc2 i h)) (fun e => by rw [e]; exact zU_eq))) (by omega) _ _ _ hP hS (lv_sub hl [1, 2, 0] rfl)
  exact L_6 (_ + 1) 0 (zU Y po 1 (nI 0)) (by omega) KL.clear zU_eq (fun i hi => absurd hi (by omega)) (Nat.lt_succ_self _) _ _ _ hP hS (lv_sub hl [1, 2, 0] rfl)

set_option maxHeartbeats 4000000 in
set_option maxRecDepth 100000 in
theorem kX3_compareWith (l : Launch) (G : zG) (A : Nat → Nat) (Y : zY) (po po1 n n1 : Nat) (t t1 : Nat → Nat) (hpo : zLP po) (hpo1 : zLP po1) (hL : LT Y po n t) (hL1 : LT Y po1 n1 t1) : ZI l yX3_compareWith cX3_compareWith 5 (.int) 1 21 G A Y [.ref (A po), .ref (A po1)] (fun r Y' => CW t n t1 n1 r ∧ Y' = Y) := by
  refine ZI.enter (by decide) (Nat.le_of_ble_eq_true rfl) ?_
  intro p e s m args below meth c R Q hxx hbb S hK hfr hlo hret H ls hP hS hl
  have hB : ∀ q, zAd A q → zAd A q := fun _ h => h
  have hl : lv_has ls 5 [(0, .ref (A po)), (1, .ref (A po1))] := hl
  have S : CallFix p m c cX3_compareWith 5 s args wsL_law RX3 := S
  have hpo9 := hpo
  obtain ⟨hp1, hz, hz1, hzl⟩ := hpo
  obtain ⟨hq1, gz, gz1, gzl⟩ := id hpo1
  have hn := hL.1
  have hn1 := hL1.1
  refine lv_aload_n hxx hbb dX3_compareWith_0 rfl (lv_at hl 0 rfl) ?_
  refine zgX3_15 S hK hP po (Nat.lt_of_succ_lt hp1) hz (v := nI n) (hL.2.1) dX3_compareWith_1 ?_
  refine lv_aload_n hxx hbb dX3_compareWith_4 rfl (lv_at hl 1 rfl) ?_
  refine zgX3_15 S hK hP po1 (Nat.lt_of_succ_lt hq1) gz (v := nI n1) (hL1.2.1) dX3_compareWith_5 ?_
  refine zminN S hl.1 zwX3_30 (Nat.le_trans (by decide) hfr) (Nat.le_trans (by decide) hlo) (by omega) (by omega) (Nat.le_of_ble_eq_true rfl) dX3_compareWith_8 ?_
  refine lv_istore_n (lv' := [(2, .int (nI (min n n1))), (0, .ref (A po)), (1, .ref (A po1))]) hxx hbb dX3_compareWith_11 rfl hl (by decide) rfl (fun ls hl => ?_)
  refine lv_iconst (v := nI 0) hxx hbb dX3_compareWith_12 (by decide) ?_
  refine lv_istore_n (lv' := [(3, .int (nI 0)), (2, .int (nI (min n n1))), (0, .ref (A po)), (1, .ref (A po1))]) hxx hbb dX3_compareWith_13 rfl hl (by decide) rfl (fun ls hl => ?_)
  have L_14 : ∀ (N_14 : Nat) (k : Nat) (hk : k ≤ min n n1) (he : ∀ i, i < k → t i = t1 i), n - k < N_14 → ∀ (H : Heap) (locs : List Loc) (ls : Array Slot), va_P G.1 vwCl (zW G A Y) H → va_S (zAd A) s.heap H locs → lv_has ls 5 [(0, .ref (A po)), (1, .ref (A po1)), (2, .int (nI (min n n1))), (3, .int (nI k))] → W p l e R s m args below meth c H locs 0 0 Q (F0 m 14 ls []) := by
    intro N_14
    induction N_14 with
    | zero => intro k hk he hm; exact absurd hm (Nat.not_lt_zero _)
    | succ N_14 ih_14 =>
      intro k hk he hm_14 H locs ls hP hS hl
      refine lv_iload_n hxx hbb dX3_compareWith_14 rfl (lv_at hl 3 rfl) ?_
      refine lv_iload_n hxx hbb dX3_compareWith_15 rfl (lv_at hl 2 rfl) ?_
      refine zcmp_ge (tgt := 46) S (by omega) (by omega) dX3_compareWith_16 (by decide) (fun c_1 => ?_) (fun c_1 => ?_)
      · skip
        refine lv_aload_n hxx hbb dX3_compareWith_46 rfl (lv_at hl 0 rfl) ?_
        refine zgX3_15 S hK hP po (Nat.lt_of_succ_lt hp1) hz (v := nI n) (hL.2.1) dX3_compareWith_47 ?_
        refine lv_aload_n hxx hbb dX3_compareWith_50 rfl (lv_at hl 1 rfl) ?_
        refine zgX3_15 S hK hP po1 (Nat.lt_of_succ_lt hq1) gz (v := nI n1) (hL1.2.1) dX3_compareWith_51 ?_
        refine lv_isub hxx hbb dX3_compareWith_54 ?_
        exact hret _ _ _ _ _ _ dX3_compareWith_55 (rfl) hP hS (⟨CW_end hn hn1 (k := k) (by omega) he, rfl⟩)
      · skip
        have ht8 := hL.2.2.2 k (by omega)
        have ht9 := hL1.2.2.2 k (by omega)
        refine lv_aload_n hxx hbb dX3_compareWith_19 rfl (lv_at hl 0 rfl) ?_
        refine lv_iload_n hxx hbb dX3_compareWith_20 rfl (lv_at hl 3 rfl) ?_
        refine ZI.callV S hK hP hS hB (kX3_letterAt l G A Y po n k (t k) hpo9 hL.2.1 (by omega) (by omega) (hL.2.2.1 k (by omega)) (by omega)) zwX3_22 zdX3_letterAt rfl ⟨Nat.le_trans (by decide) hfr, Nat.le_trans (by decide) hlo⟩ (Nat.lt_of_succ_lt hp1) (zcK3 hz) rfl rfl (Nat.le_of_ble_eq_true rfl) hl.1 dX3_compareWith_21 ⟨Nat.zero_le _, Nat.zero_le _⟩ (fun r_2 Y_3 H locs hq_4 hP hS => ?_)
        obtain ⟨hr9, hY9⟩ := hq_4
        subst hr9; rw [hY9] at hP
        refine lv_aload_n hxx hbb dX3_compareWith_24 rfl (lv_at hl 1 rfl) ?_
        refine lv_iload_n hxx hbb dX3_compareWith_25 rfl (lv_at hl 3 rfl) ?_
        refine ZI.callV S hK hP hS hB (kX3_letterAt l G A Y po1 n1 k (t1 k) hpo1 hL1.2.1 (by omega) (by omega) (hL1.2.2.1 k (by omega)) (by omega)) zwX3_22 zdX3_letterAt rfl ⟨Nat.le_trans (by decide) hfr, Nat.le_trans (by decide) hlo⟩ (Nat.lt_of_succ_lt hq1) (zcK3 gz) rfl rfl (Nat.le_of_ble_eq_true rfl) hl.1 dX3_compareWith_26 ⟨Nat.zero_le _, Nat.zero_le _⟩ (fun r_5 Y_6 H locs hq_7 hP hS => ?_)
        obtain ⟨hr9, hY9⟩ := hq_7
        subst hr9; rw [hY9] at hP
        refine lv_isub hxx hbb dX3_compareWith_29 ?_
        refine lv_istore (lv' := [(4, .int ((nI (t k)) - (nI (t1 k)))), (0, .ref (A po)), (1, .ref (A po1)), (2, .int (nI (min n n1))), (3, .int (nI k))]) hxx hbb dX3_compareWith_30 hl (by decide) rfl (fun ls hl => ?_)
        refine lv_iload hxx hbb dX3_compareWith_32 (lv_at hl 0 rfl) ?_
        refine lv_if_eq (tgt := 40) hxx hbb dX3_compareWith_34 (by decide) (fun c_8 => ?_) (fun c_8 => ?_)
        · skip
          refine lv_iinc (v := nI (k + 1)) (lv' := [(3, .int (nI (k + 1))), (4, .int ((nI (t k)) - (nI (t1 k)))), (0, .ref (A po)), (1, .ref (A po1)), (2, .int (nI (min n n1)))]) hxx hbb dX3_compareWith_40 hl (k := 4) rfl (zinc1 _) (by decide) rfl (fun ls hl => ?_)
          refine lv_goto (tgt := 14) hxx hbb dX3_compareWith_43 (by decide) ?_
          exact ih_14 (k + 1) (by omega) (fun i hi => (Nat.lt_succ_iff_lt_or_eq.mp hi).elim (he i) (fun e => by rw [e]; exact (sub_neg (by omega) (by omega)).2.mp c_8)) (by omega) _ _ _ hP hS (lv_sub hl [2, 3, 4, 0] rfl)
        · skip
          refine lv_iload hxx hbb dX3_compareWith_37 (lv_at hl 0 rfl) ?_
          exact hret _ _ _ _ _ _ dX3_compareWith_39 (rfl) hP hS (⟨CW_at (by omega) (by omega) (by omega) (by omega) he c_8, rfl⟩)
  exact L_14 (_ + 1) 0 (by omega) (fun i hi => absurd hi (by omega)) (Nat.lt_succ_self _) _ _ _ hP hS (lv_sub hl [2, 3, 1, 0] rfl)
