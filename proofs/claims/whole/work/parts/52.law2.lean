theorem XC.wt {Y Z : zY} {nn : Nat} {kd lf rt tx : Nat → Nat} {len ad mi wr a b c : Nat} {sz : Nat → Nat} (h : XC Y nn kd lf rt tx len ad mi wr sz) (ha : a ≤ 9) (hb : b ≤ 9) (hc : c ≤ 9) (e : ∀ q, 11 ≤ q → q ≤ 17 → Z q = Y q) (e3 : Z 18 3 = nI a) (e4 : Z 18 4 = nI b) (e5 : Z 18 5 = nI c) : XC Z nn kd lf rt tx len a b c sz := by
  obtain ⟨a1, a2, a3, -, -, -, a7, a8, a9, b1, -, -, -⟩ := h
  refine ⟨a1, a2, a3, ha, hb, hc, a7, ?_, ?_, ?_, e3, e4, e5⟩
  · unfold XP at *
    rw [e 11 (by omega) (by omega), e (11 + 1) (by omega) (by omega), e (11 + 2) (by omega) (by omega), e (11 + 3) (by omega) (by omega), e (11 + 4) (by omega) (by omega)]; exact a8
  · rw [e 16 (by omega) (by omega)]; exact a9
  · rw [e 17 (by omega) (by omega)]; exact b1
theorem XC.mkt {Y Z : zY} {nn : Nat} {kd lf rt tx ty : Nat → Nat} {len ad mi wr m : Nat} {sz : Nat → Nat} (h : XC Y nn kd lf rt tx len ad mi wr sz) (hm : m ≤ 24) (hb : ∀ q, q < m → 97 ≤ ty q ∧ ty q ≤ 122) (e : ∀ q, 11 ≤ q → q ≤ 15 → Z q = Y q) (e1 : Z 16 1 = nI m) (e2 : ∀ q, q < m → Z 17 q = nI (ty q)) (e3 : ∀ k, k = 3 ∨ k = 4 ∨ k = 5 → Z 18 k = Y 18 k) : XC Z nn kd lf rt ty m ad mi wr sz := by
  obtain ⟨a1, a2, a3, a4, a5, a6, a7, a8, a9, b1, b2, b3, b4⟩ := h
  refine ⟨a1, a2, hm, a4, a5, a6, hb, ?_, e1, e2, (e3 3 (by omega)).trans b2, (e3 4 (by omega)).trans b3, (e3 5 (by omega)).trans b4⟩
  unfold XP at *
  rw [e 11 (by omega) (by omega), e (11 + 1) (by omega) (by omega), e (11 + 2) (by omega) (by omega), e (11 + 3) (by omega) (by omega), e (11 + 4) (by omega) (by omega)]; exact a8
theorem XC.pat {Y Z : zY} {nn n2 : Nat} {kd lf rt tx k2 l2 r2 : Nat → Nat} {len ad mi wr : Nat} {sz s2 : Nat → Nat} (h : XC Y nn kd lf rt tx len ad mi wr sz) (hw : wfN n2 k2 l2 r2) (hs : szN n2 k2 l2 r2 s2) (hP : XP Z 11 n2 k2 l2 r2) (e1 : Z 16 = Y 16) (e2 : Z 17 = Y 17) (e3 : ∀ k, k = 3 ∨ k = 4 ∨ k = 5 → Z 18 k = Y 18 k) : XC Z n2 k2 l2 r2 tx len ad mi wr s2 := by
  obtain ⟨a1, a2, a3, a4, a5, a6, a7, a8, a9, b1, b2, b3, b4⟩ := h
  exact ⟨hw, hs, a3, a4, a5, a6, a7, hP, by rw [e1]; exact a9, by rw [e2]; exact b1, (e3 3 (by omega)).trans b2, (e3 4 (by omega)).trans b3, (e3 5 (by omega)).trans b4⟩
theorem MC.wt {Y Z : zY} {nn : Nat} {kd lf rt tx : Nat → Nat} {len ad mi wr a b c : Nat} (h : MC Y nn kd lf rt tx len ad mi wr) (ha : a ≤ 9) (hb : b ≤ 9) (hc : c ≤ 9) (e : ∀ k, k = 2 ∨ k = 19 → Z 102 k = Y 102 k) (e2 : ∀ q, (104 ≤ q ∧ q ≤ 106) ∨ q = 112 → Z q = Y q) (e3 : Z 102 15 = nI a) (e4 : Z 102 16 = nI b) (e5 : Z 102 17 = nI c) : MC Z nn kd lf rt tx len a b c := by
  obtain ⟨a1, a2, -, -, -, a6, a7, a8, -, -, -, b3, b4⟩ := h
  exact ⟨a1, a2, ha, hb, hc, a6, (e 2 (by omega)).trans a7, (e 19 (by omega)).trans a8, e3, e4, e5, by rw [e2 112 (by omega)]; exact b3, by rw [e2 104 (by omega), e2 105 (by omega), e2 106 (by omega)]; exact b4⟩
theorem MC.mkt {Y Z : zY} {nn : Nat} {kd lf rt tx ty : Nat → Nat} {len ad mi wr m : Nat} (h : MC Y nn kd lf rt tx len ad mi wr) (hm : m ≤ 24) (hb : ∀ q, q < m → 97 ≤ ty q ∧ ty q ≤ 122) (e : ∀ k, k = 2 ∨ k = 15 ∨ k = 16 ∨ k = 17 → Z 102 k = Y 102 k) (e2 : ∀ q, 104 ≤ q → q ≤ 106 → Z q = Y q) (e3 : Z 102 19 = nI m) (e4 : ∀ q, q < m → Z 112 q = nI (ty q)) : MC Z nn kd lf rt ty m ad mi wr := by
  obtain ⟨a1, a2, a3, a4, a5, a6, a7, a8, a9, b1, b2, b3, b4⟩ := h
  exact ⟨a1, hm, a3, a4, a5, hb, (e 2 (by omega)).trans a7, e3, (e 15 (by omega)).trans a9, (e 16 (by omega)).trans b1, (e 17 (by omega)).trans b2, e4, by rw [e2 104 (by omega) (by omega), e2 105 (by omega) (by omega), e2 106 (by omega) (by omega)]; exact b4⟩
theorem MC.pat {Y Z : zY} {nn n2 : Nat} {kd lf rt tx k2 l2 r2 : Nat → Nat} {len ad mi wr : Nat} (h : MC Y nn kd lf rt tx len ad mi wr) (hw : wfN n2 k2 l2 r2) (e1 : Z 102 2 = nI n2) (e : ∀ k, k = 15 ∨ k = 16 ∨ k = 17 ∨ k = 19 → Z 102 k = Y 102 k) (e2 : Z 112 = Y 112) (e3 : ∀ n, n < n2 → Z 104 n = nI (k2 n) ∧ Z 105 n = nI (l2 n) ∧ Z 106 n = nI (r2 n)) : MC Z n2 k2 l2 r2 tx len ad mi wr := by
  obtain ⟨a1, a2, a3, a4, a5, a6, a7, a8, a9, b1, b2, b3, b4⟩ := h
  exact ⟨hw, a2, a3, a4, a5, a6, e1, (e 19 (by omega)).trans a8, (e 15 (by omega)).trans a9, (e 16 (by omega)).trans b1, (e 17 (by omega)).trans b2, by rw [e2]; exact b3, e3⟩
theorem MD.mkt {Y Z : zY} {nw : Nat} {sz : Nat → Nat} {lt : Nat → Nat → Nat} {tx ty : Nat → Nat} {len m : Nat} (h : MD Y nw sz lt tx len) (hm : m ≤ 24) (hb : ∀ q, q < m → 97 ≤ ty q ∧ ty q ≤ 122) (e : Z 102 25 = Y 102 25) (e3 : Z 102 19 = nI m) (e4 : ∀ q, q < m → Z 112 q = nI (ty q)) (e2 : ∀ q, q = 114 ∨ q = 115 → Z q = Y q) : MD Z nw sz lt ty m := by
  obtain ⟨a1, a2, a3, a4, a5, a6, a7, a8⟩ := h
  exact ⟨a1, hm, a3, hb, e.trans a5, e3, e4, by rw [e2 114 (by omega), e2 115 (by omega)]; exact a8⟩
theorem cU_b {tx : Nat → Nat} {len k : Nat} (h : ∀ q, q < len → 97 ≤ tx q ∧ tx q ≤ 122) (hk : 97 ≤ k ∧ k ≤ 122) : ∀ q, q < len + 1 → 97 ≤ cU tx len k q ∧ cU tx len k q ≤ 122 := fun q hq => by
  unfold cU
  by_cases e : q = len
  · rw [if_pos e]; exact hk
  · rw [if_neg e]; exact h q (by omega)
theorem cU_r {Y : zY} {a : Nat} {tx : Nat → Nat} {len k : Nat} (h : ∀ q, q < len → Y a q = nI (tx q)) : ∀ q, q < len + 1 → zU Y a len (nI k) a q = nI (cU tx len k q) := fun q hq => by
  unfold cU
  by_cases e : q = len
  · subst e; rw [if_pos rfl, zU_eq]
  · rw [if_neg e, zU_nj e]; exact h q (by omega)
theorem XT.tx {Y Z : zY} {kd lf rt tx : Nat → Nat} {ad mi wr nn kn len c : Nat} (h : XT Y (cCost kd lf rt tx ad mi wr) nn kn) (hk : kn ≤ len + 1) (hn : nn ≤ 24) (e : Z 18 2 = Y 18 2) (e2 : ∀ q, 20 ≤ q → q ≤ 43 → Z q = Y q) : XT Z (cCost kd lf rt (cU tx len c) ad mi wr) nn kn := by
  refine ⟨e.trans h.1, fun n hn2 i j h1 h2 => ?_⟩
  rw [cCost_tx (J := len) (fun p hp => by unfold cU; rw [if_neg (by omega)]) n i j h1 (by omega)]
  exact (congrFun (e2 (20 + n) (by omega) (by omega)) _).trans (h.2 n hn2 i j h1 h2)
theorem wt_of {x : Int32} (h : wt x) : ∃ a, a ≤ 9 ∧ x = nI a := nI_of2 (M := 9) rfl (Int32.not_lt.mpr h.1) h.2
theorem bd_of {x : Int32} (h : 0 ≤ x ∧ x ≤ 999) : ∃ a, a ≤ 999 ∧ x = nI a := nI_of2 (M := 999) rfl (Int32.not_lt.mpr h.1) h.2

theorem IX.type {n : Nat} {ch : Nat → Nat} {nn : Nat} {kd lf rt tx : Nat → Nat} {len ad mi wr bd nw : Nat} {wz : Nat → Nat} {wl : Nat → Nat → Nat} {f t : Int32} {Y : zY} {k : Nat} (h : IX Y n ch nn kd lf rt tx len ad mi wr bd nw wz wl f t) (hk : k < 65536) (hn : n < 40) : IX (zU (zU Y 1 n (nI k)) 0 1 (nI (n + 1))) (n + 1) (cU ch n k) nn kd lf rt tx len ad mi wr bd nw wz wl f t := by
  obtain ⟨h1, h2, ⟨sz, h3⟩, ⟨kn, hkn, h4⟩, h5, h6, h7⟩ := h
  exact ⟨h1.put hn hk (by decide), (h2.zu (by omega)).zu (by omega), ⟨sz, h3.cg (fun q a b => by rw [zU_row (by omega), zU_row (by omega)]) (fun k9 _ => by rw [zU_row (by omega), zU_row (by omega)])⟩, ⟨kn, hkn, h4.cg h3.1.1 (by rw [zU_row (by omega), zU_row (by omega)]) (fun q a b => by rw [zU_row (by omega), zU_row (by omega)])⟩, ⟨h5.1, ((zU_nj (by decide)).trans ((zU_np (by decide)).trans (h5.2)))⟩, ⟨((zU_nj (by decide)).trans ((zU_np (by decide)).trans (h6.1))), ((zU_nj (by decide)).trans ((zU_np (by decide)).trans (h6.2)))⟩, h7.cg (by rw [zU_row (by omega), zU_row (by omega)]) (fun q a => by rw [zU_row (by omega), zU_row (by omega)])⟩
theorem IM.type {n : Nat} {ch : Nat → Nat} {nn : Nat} {kd lf rt tx : Nat → Nat} {len ad mi wr bd nw : Nat} {wz : Nat → Nat} {wl : Nat → Nat → Nat} {f t : Int32} {Y : zY} {k : Nat} (h : IM Y n ch nn kd lf rt tx len ad mi wr bd nw wz wl f t) (hk : k < 65536) (hn : n < 40) : IM (zU (zU Y 103 n (nI k)) 102 0 (nI (n + 1))) (n + 1) (cU ch n k) nn kd lf rt tx len ad mi wr bd nw wz wl f t := by
  obtain ⟨h1, h2, h3, h4, h5, h6⟩ := h
  exact ⟨h1.put hn hk (by decide), h2.cg (fun k9 a => (zU_nj (by omega)).trans (zU_np (by decide))) (fun q a => by rw [zU_row (by omega), zU_row (by omega)]), h3.cg ((zU_nj (by decide)).trans (zU_np (by decide))) (by rw [zU_row (by omega), zU_row (by omega)]), ⟨h4.1, (zU_nj (by decide)).trans ((zU_np (by decide)).trans h4.2)⟩, ⟨(zU_nj (by decide)).trans ((zU_np (by decide)).trans h5.1), (zU_nj (by decide)).trans ((zU_np (by decide)).trans h5.2)⟩, h6.cg (fun k9 a => (zU_nj (by omega)).trans (zU_np (by decide))) (fun q a => by rw [zU_row (by omega), zU_row (by omega)])⟩
theorem go_type {n : Nat} {ch : Nat → Nat} {nn : Nat} {kd lf rt tx : Nat → Nat} {len ad mi wr bd nw : Nat} {wz : Nat → Nat} {wl : Nat → Nat → Nat} {f t : Int32} {Y Y1 : zY} {r : Int32} {k : Nat} (hk : k < 65536) (hX : IX Y n ch nn kd lf rt tx len ad mi wr bd nw wz wl f t) (hM : IM Y n ch nn kd lf rt tx len ad mi wr bd nw wz wl f t) (h1 : ((33 ≤ k ∧ k ≤ 126 ∧ n < 40) ∧ r = nI 1 ∧ Y1 = zU (zU Y 1 n (nI k)) 0 1 (nI (n + 1))) ∨ (¬ (33 ≤ k ∧ k ≤ 126 ∧ n < 40) ∧ r = nI 0 ∧ Y1 = Y)) : IM Y1 n ch nn kd lf rt tx len ad mi wr bd nw wz wl f t ∧ ∀ (r2 : Int32) (Y2 : zY), (((33 ≤ k ∧ k ≤ 126 ∧ n < 40) ∧ r2 = nI 1 ∧ Y2 = zU (zU Y1 103 n (nI k)) 102 0 (nI (n + 1))) ∨ (¬ (33 ≤ k ∧ k ≤ 126 ∧ n < 40) ∧ r2 = nI 0 ∧ Y2 = Y1)) → r = r2 ∧ LV Y2 := by
  rcases h1 with ⟨hc, rfl, hY⟩ | ⟨hc, rfl, rfl⟩
  · have hM1 : IM Y1 n ch nn kd lf rt tx len ad mi wr bd nw wz wl f t := hM.cg (fun q hq => by rw [hY, zU_row (by omega), zU_row (by omega)])
    subst hY
    refine ⟨hM1, fun r2 Y2 h2 => ?_⟩
    rcases h2 with ⟨hd, rfl, rfl⟩ | ⟨hd, -, -⟩
    · exact ⟨rfl, LV.mk ((hX.type hk hc.2.2).cg (fun q hq => by rw [zU_row (by omega), zU_row (by omega)])) (hM1.type hk hc.2.2)⟩
    · exact absurd hc hd
  · refine ⟨hM, fun r2 Y2 h2 => ?_⟩
    rcases h2 with ⟨hd, -, -⟩ | ⟨hd, rfl, rfl⟩
    · exact absurd hd hc
    · exact ⟨rfl, LV.mk hX hM⟩
theorem IX.wts {n : Nat} {ch : Nat → Nat} {nn : Nat} {kd lf rt tx : Nat → Nat} {len ad mi wr bd nw : Nat} {wz : Nat → Nat} {wl : Nat → Nat → Nat} {f t : Int32} {Y : zY} {a b c : Nat} (h : IX Y n ch nn kd lf rt tx len ad mi wr bd nw wz wl f t) (ha : a ≤ 9) (hb : b ≤ 9) (hc : c ≤ 9) : IX (zU (zU (zU (zU (zU (zU Y 18 3 (nI a)) 18 4 (nI b)) 18 5 (nI c)) 18 2 (nI 0)) 0 8 (-1)) 0 9 (-1)) n ch nn kd lf rt tx len a b c bd nw wz wl (-1) (-1) := by
  obtain ⟨h1, h2, ⟨sz, h3⟩, ⟨kn, hkn, h4⟩, h5, h6, h7⟩ := h
  exact ⟨h1.cg ((zU_nj (by decide)).trans ((zU_nj (by decide)).trans ((zU_np (by decide)).trans ((zU_np (by decide)).trans ((zU_np (by decide)).trans (zU_np (by decide))))))) (by rw [zU_row (by omega), zU_row (by omega), zU_row (by omega), zU_row (by omega), zU_row (by omega), zU_row (by omega)]), h2.rows (fun q a b => by rw [zU_row (by omega), zU_row (by omega), zU_row (by omega), zU_row (by omega), zU_row (by omega), zU_row (by omega)]), ⟨sz, h3.wt ha hb hc (fun q a b => by rw [zU_row (by omega), zU_row (by omega), zU_row (by omega), zU_row (by omega), zU_row (by omega), zU_row (by omega)]) ((zU_np (by decide)).trans ((zU_np (by decide)).trans ((zU_nj (by decide)).trans ((zU_nj (by decide)).trans ((zU_nj (by decide)).trans (zU_eq)))))) ((zU_np (by decide)).trans ((zU_np (by decide)).trans ((zU_nj (by decide)).trans ((zU_nj (by decide)).trans (zU_eq))))) ((zU_np (by decide)).trans ((zU_np (by decide)).trans ((zU_nj (by decide)).trans (zU_eq))))⟩, ⟨0, Nat.zero_le _, XT.nil ((zU_np (by decide)).trans ((zU_np (by decide)).trans (zU_eq)))⟩, ⟨h5.1, ((zU_nj (by decide)).trans ((zU_nj (by decide)).trans ((zU_np (by decide)).trans ((zU_np (by decide)).trans ((zU_np (by decide)).trans ((zU_np (by decide)).trans (h5.2)))))))⟩, ⟨((zU_nj (by decide)).trans (zU_eq)), (zU_eq)⟩, h7.cg (by rw [zU_row (by omega), zU_row (by omega), zU_row (by omega), zU_row (by omega), zU_row (by omega), zU_row (by omega)]) (fun q a => by rw [zU_row (by omega), zU_row (by omega), zU_row (by omega), zU_row (by omega), zU_row (by omega), zU_row (by omega)])⟩
theorem IM.wts {n : Nat} {ch : Nat → Nat} {nn : Nat} {kd lf rt tx : Nat → Nat} {len ad mi wr bd nw : Nat} {wz : Nat → Nat} {wl : Nat → Nat → Nat} {f t : Int32} {Y : zY} {a b c : Nat} (h : IM Y n ch nn kd lf rt tx len ad mi wr bd nw wz wl f t) (ha : a ≤ 9) (hb : b ≤ 9) (hc : c ≤ 9) : IM (zU (zU (zU (zU (zU (zU Y 102 15 (nI a)) 102 16 (nI b)) 102 17 (nI c)) 102 21 (nI 0)) 102 23 (-1)) 102 24 (-1)) n ch nn kd lf rt tx len a b c bd nw wz wl (-1) (-1) := by
  obtain ⟨h1, h2, h3, h4, h5, h6⟩ := h
  exact ⟨h1.cg ((zU_nj (by decide)).trans ((zU_nj (by decide)).trans ((zU_nj (by decide)).trans ((zU_nj (by decide)).trans ((zU_nj (by decide)).trans (zU_nj (by decide))))))) (by rw [zU_row (by omega), zU_row (by omega), zU_row (by omega), zU_row (by omega), zU_row (by omega), zU_row (by omega)]), h2.wt ha hb hc (fun k9 a => by rcases a with rfl | rfl <;> simp [zU]) (fun q a => by rw [zU_row (by omega), zU_row (by omega), zU_row (by omega), zU_row (by omega), zU_row (by omega), zU_row (by omega)]) ((zU_nj (by decide)).trans ((zU_nj (by decide)).trans ((zU_nj (by decide)).trans ((zU_nj (by decide)).trans ((zU_nj (by decide)).trans (zU_eq)))))) ((zU_nj (by decide)).trans ((zU_nj (by decide)).trans ((zU_nj (by decide)).trans ((zU_nj (by decide)).trans (zU_eq))))) ((zU_nj (by decide)).trans ((zU_nj (by decide)).trans ((zU_nj (by decide)).trans (zU_eq)))), Or.inl ((zU_nj (by decide)).trans ((zU_nj (by decide)).trans (zU_eq))), ⟨h4.1, ((zU_nj (by decide)).trans ((zU_nj (by decide)).trans ((zU_nj (by decide)).trans ((zU_nj (by decide)).trans ((zU_nj (by decide)).trans ((zU_nj (by decide)).trans (h4.2)))))))⟩, ⟨((zU_nj (by decide)).trans (zU_eq)), (zU_eq)⟩, h6.cg (fun k9 a => by rcases a with rfl | rfl <;> simp [zU]) (fun q a => by rw [zU_row (by omega), zU_row (by omega), zU_row (by omega), zU_row (by omega), zU_row (by omega), zU_row (by omega)])⟩
theorem go_weights {n : Nat} {ch : Nat → Nat} {nn : Nat} {kd lf rt tx : Nat → Nat} {len ad mi wr bd nw : Nat} {wz : Nat → Nat} {wl : Nat → Nat → Nat} {f t : Int32} {Y Y1 : zY} {r : Int32} {x y z : Int32} (hX : IX Y n ch nn kd lf rt tx len ad mi wr bd nw wz wl f t) (hM : IM Y n ch nn kd lf rt tx len ad mi wr bd nw wz wl f t) (h1 : ((wt x ∧ wt y ∧ wt z) ∧ r = nI 1 ∧ Y1 = zU (zU (zU (zU (zU (zU Y 18 3 x) 18 4 y) 18 5 z) 18 2 (nI 0)) 0 8 (-1)) 0 9 (-1)) ∨ (¬ (wt x ∧ wt y ∧ wt z) ∧ r = nI 0 ∧ Y1 = Y)) : IM Y1 n ch nn kd lf rt tx len ad mi wr bd nw wz wl f t ∧ ∀ (r2 : Int32) (Y2 : zY), (((wt x ∧ wt y ∧ wt z) ∧ r2 = nI 1 ∧ Y2 = zU (zU (zU (zU (zU (zU Y1 102 15 x) 102 16 y) 102 17 z) 102 21 (nI 0)) 102 23 (-1)) 102 24 (-1)) ∨ (¬ (wt x ∧ wt y ∧ wt z) ∧ r2 = nI 0 ∧ Y2 = Y1)) → r = r2 ∧ LV Y2 := by
  rcases h1 with ⟨hc, rfl, hY⟩ | ⟨hc, rfl, rfl⟩
  · have hM1 : IM Y1 n ch nn kd lf rt tx len ad mi wr bd nw wz wl f t := hM.cg (fun q hq => by rw [hY, zU_row (by omega), zU_row (by omega), zU_row (by omega), zU_row (by omega), zU_row (by omega), zU_row (by omega)])
    subst hY
    refine ⟨hM1, fun r2 Y2 h2 => ?_⟩
    rcases h2 with ⟨hd, rfl, rfl⟩ | ⟨hd, -, -⟩
    · obtain ⟨a, ha, rfl⟩ := wt_of hc.1
      obtain ⟨b, hb, rfl⟩ := wt_of hc.2.1
      obtain ⟨c, hc9, rfl⟩ := wt_of hc.2.2
      exact ⟨rfl, LV.mk ((hX.wts ha hb hc9).cg (fun q hq => by rw [zU_row (by omega), zU_row (by omega), zU_row (by omega), zU_row (by omega), zU_row (by omega), zU_row (by omega)])) (hM1.wts ha hb hc9)⟩
    · exact absurd hc hd
  · refine ⟨hM, fun r2 Y2 h2 => ?_⟩
    rcases h2 with ⟨hd, -, -⟩ | ⟨hd, rfl, rfl⟩
    · exact absurd hd hc
    · exact ⟨rfl, LV.mk hX hM⟩
theorem IX.bnd {n : Nat} {ch : Nat → Nat} {nn : Nat} {kd lf rt tx : Nat → Nat} {len ad mi wr bd nw : Nat} {wz : Nat → Nat} {wl : Nat → Nat → Nat} {f t : Int32} {Y : zY} {a : Nat} (h : IX Y n ch nn kd lf rt tx len ad mi wr bd nw wz wl f t) (ha : a ≤ 999) : IX (zU (zU (zU Y 0 7 (nI a)) 0 8 (-1)) 0 9 (-1)) n ch nn kd lf rt tx len ad mi wr a nw wz wl (-1) (-1) := by
  obtain ⟨h1, h2, ⟨sz, h3⟩, ⟨kn, hkn, h4⟩, h5, h6, h7⟩ := h
  exact ⟨h1.cg ((zU_nj (by decide)).trans ((zU_nj (by decide)).trans (zU_nj (by decide)))) (by rw [zU_row (by omega), zU_row (by omega), zU_row (by omega)]), h2.rows (fun q a b => by rw [zU_row (by omega), zU_row (by omega), zU_row (by omega)]), ⟨sz, h3.cg (fun q a b => by rw [zU_row (by omega), zU_row (by omega), zU_row (by omega)]) (fun k9 _ => by rw [zU_row (by omega), zU_row (by omega), zU_row (by omega)])⟩, ⟨kn, hkn, h4.cg h3.1.1 (by rw [zU_row (by omega), zU_row (by omega), zU_row (by omega)]) (fun q a b => by rw [zU_row (by omega), zU_row (by omega), zU_row (by omega)])⟩, ⟨ha, ((zU_nj (by decide)).trans ((zU_nj (by decide)).trans (zU_eq)))⟩, ⟨((zU_nj (by decide)).trans (zU_eq)), (zU_eq)⟩, h7.cg (by rw [zU_row (by omega), zU_row (by omega), zU_row (by omega)]) (fun q a => by rw [zU_row (by omega), zU_row (by omega), zU_row (by omega)])⟩
theorem IM.bnd {n : Nat} {ch : Nat → Nat} {nn : Nat} {kd lf rt tx : Nat → Nat} {len ad mi wr bd nw : Nat} {wz : Nat → Nat} {wl : Nat → Nat → Nat} {f t : Int32} {Y : zY} {a : Nat} (h : IM Y n ch nn kd lf rt tx len ad mi wr bd nw wz wl f t) (ha : a ≤ 999) : IM (zU (zU (zU (zU Y 102 18 (nI a)) 102 21 (nI 0)) 102 23 (-1)) 102 24 (-1)) n ch nn kd lf rt tx len ad mi wr a nw wz wl (-1) (-1) := by
  obtain ⟨h1, h2, h3, h4, h5, h6⟩ := h
  exact ⟨h1.cg ((zU_nj (by decide)).trans ((zU_nj (by decide)).trans ((zU_nj (by decide)).trans (zU_nj (by decide))))) (by rw [zU_row (by omega), zU_row (by omega), zU_row (by omega), zU_row (by omega)]), h2.cg (fun k9 a => by rcases a with rfl | rfl | rfl | rfl | rfl <;> simp [zU]) (fun q a => by rw [zU_row (by omega), zU_row (by omega), zU_row (by omega), zU_row (by omega)]), Or.inl ((zU_nj (by decide)).trans ((zU_nj (by decide)).trans (zU_eq))), ⟨ha, ((zU_nj (by decide)).trans ((zU_nj (by decide)).trans ((zU_nj (by decide)).trans (zU_eq))))⟩, ⟨((zU_nj (by decide)).trans (zU_eq)), (zU_eq)⟩, h6.cg (fun k9 a => by rcases a with rfl | rfl <;> simp [zU]) (fun q a => by rw [zU_row (by omega), zU_row (by omega), zU_row (by omega), zU_row (by omega)])⟩
theorem go_bound {n : Nat} {ch : Nat → Nat} {nn : Nat} {kd lf rt tx : Nat → Nat} {len ad mi wr bd nw : Nat} {wz : Nat → Nat} {wl : Nat → Nat → Nat} {f t : Int32} {Y Y1 : zY} {r : Int32} {x : Int32} (hX : IX Y n ch nn kd lf rt tx len ad mi wr bd nw wz wl f t) (hM : IM Y n ch nn kd lf rt tx len ad mi wr bd nw wz wl f t) (h1 : ((0 ≤ x ∧ x ≤ 999) ∧ r = nI 1 ∧ Y1 = zU (zU (zU Y 0 7 x) 0 8 (-1)) 0 9 (-1)) ∨ (¬ (0 ≤ x ∧ x ≤ 999) ∧ r = nI 0 ∧ Y1 = Y)) : IM Y1 n ch nn kd lf rt tx len ad mi wr bd nw wz wl f t ∧ ∀ (r2 : Int32) (Y2 : zY), (((0 ≤ x ∧ x ≤ 999) ∧ r2 = nI 1 ∧ Y2 = zU (zU (zU (zU Y1 102 18 x) 102 21 (nI 0)) 102 23 (-1)) 102 24 (-1)) ∨ (¬ (0 ≤ x ∧ x ≤ 999) ∧ r2 = nI 0 ∧ Y2 = Y1)) → r = r2 ∧ LV Y2 := by
  rcases h1 with ⟨hc, rfl, hY⟩ | ⟨hc, rfl, rfl⟩
  · have hM1 : IM Y1 n ch nn kd lf rt tx len ad mi wr bd nw wz wl f t := hM.cg (fun q hq => by rw [hY, zU_row (by omega), zU_row (by omega), zU_row (by omega)])
    subst hY
    refine ⟨hM1, fun r2 Y2 h2 => ?_⟩
    rcases h2 with ⟨hd, rfl, rfl⟩ | ⟨hd, -, -⟩
    · obtain ⟨a, ha, rfl⟩ := bd_of hc
      exact ⟨rfl, LV.mk ((hX.bnd ha).cg (fun q hq => by rw [zU_row (by omega), zU_row (by omega), zU_row (by omega), zU_row (by omega)])) (hM1.bnd ha)⟩
    · exact absurd hc hd
  · refine ⟨hM, fun r2 Y2 h2 => ?_⟩
    rcases h2 with ⟨hd, -, -⟩ | ⟨hd, rfl, rfl⟩
    · exact absurd hd hc
    · exact ⟨rfl, LV.mk hX hM⟩
theorem IX.wrt {n : Nat} {ch : Nat → Nat} {nn : Nat} {kd lf rt tx : Nat → Nat} {len ad mi wr bd nw : Nat} {wz : Nat → Nat} {wl : Nat → Nat → Nat} {f t : Int32} {Y : zY} {k : Nat} (h : IX Y n ch nn kd lf rt tx len ad mi wr bd nw wz wl f t) (hk : 97 ≤ k ∧ k ≤ 122) (hl : len < 24) : IX (zU (zU (zU (zU Y 17 len (nI k)) 16 1 (nI (len + 1))) 0 8 (-1)) 0 9 (-1)) n ch nn kd lf rt (cU tx len k) (len + 1) ad mi wr bd nw wz wl (-1) (-1) := by
  obtain ⟨h1, h2, ⟨sz, h3⟩, ⟨kn, hkn, h4⟩, h5, h6, h7⟩ := h
  have hL : LT (zU (zU (zU (zU Y 17 len (nI k)) 16 1 (nI (len + 1))) 0 8 (-1)) 0 9 (-1)) 16 (len + 1) (cU tx len k) := ⟨by omega, ((zU_np (by decide)).trans ((zU_np (by decide)).trans (zU_eq))), fun q hq => (zU_np (by decide)).trans ((zU_np (by decide)).trans ((zU_np (by decide)).trans (cU_r h3.2.2.2.2.2.2.2.2.2.1 q hq))), cU_b h3.2.2.2.2.2.2.1 hk⟩
  exact ⟨h1.cg ((zU_nj (by decide)).trans ((zU_nj (by decide)).trans ((zU_np (by decide)).trans (zU_np (by decide))))) (by rw [zU_row (by omega), zU_row (by omega), zU_row (by omega), zU_row (by omega)]), h2.rows (fun q a b => by rw [zU_row (by omega), zU_row (by omega), zU_row (by omega), zU_row (by omega)]), ⟨sz, h3.mkt (by omega) hL.2.2.2 (fun q a b => by rw [zU_row (by omega), zU_row (by omega), zU_row (by omega), zU_row (by omega)]) hL.2.1 hL.2.2.1 (fun k9 _ => by rw [zU_row (by omega), zU_row (by omega), zU_row (by omega), zU_row (by omega)])⟩, ⟨kn, by omega, h4.tx hkn h3.1.1 (by rw [zU_row (by omega), zU_row (by omega), zU_row (by omega), zU_row (by omega)]) (fun q a b => by rw [zU_row (by omega), zU_row (by omega), zU_row (by omega), zU_row (by omega)])⟩, ⟨h5.1, ((zU_nj (by decide)).trans ((zU_nj (by decide)).trans ((zU_np (by decide)).trans ((zU_np (by decide)).trans (h5.2)))))⟩, ⟨((zU_nj (by decide)).trans (zU_eq)), (zU_eq)⟩, h7.tx (by rw [zU_row (by omega), zU_row (by omega), zU_row (by omega), zU_row (by omega)]) (fun q a b => by rw [zU_row (by omega), zU_row (by omega), zU_row (by omega), zU_row (by omega)]) hL⟩
theorem IM.wrt {n : Nat} {ch : Nat → Nat} {nn : Nat} {kd lf rt tx : Nat → Nat} {len ad mi wr bd nw : Nat} {wz : Nat → Nat} {wl : Nat → Nat → Nat} {f t : Int32} {Y : zY} {k : Nat} (h : IM Y n ch nn kd lf rt tx len ad mi wr bd nw wz wl f t) (hk : 97 ≤ k ∧ k ≤ 122) (hl : len < 24) : IM (zU (zU (zU (zU (zU Y 112 len (nI k)) 102 19 (nI (len + 1))) 102 21 (nI 0)) 102 23 (-1)) 102 24 (-1)) n ch nn kd lf rt (cU tx len k) (len + 1) ad mi wr bd nw wz wl (-1) (-1) := by
  obtain ⟨h1, h2, h3, h4, h5, h6⟩ := h
  have hb := cU_b h2.2.2.2.2.2.1 hk
  have h12 : ∀ q, q < len + 1 → (zU (zU (zU (zU (zU Y 112 len (nI k)) 102 19 (nI (len + 1))) 102 21 (nI 0)) 102 23 (-1)) 102 24 (-1)) 112 q = nI (cU tx len k q) := fun q hq => (zU_np (by decide)).trans ((zU_np (by decide)).trans ((zU_np (by decide)).trans ((zU_np (by decide)).trans (cU_r h2.2.2.2.2.2.2.2.2.2.2.2.1 q hq))))
  have h19 : (zU (zU (zU (zU (zU Y 112 len (nI k)) 102 19 (nI (len + 1))) 102 21 (nI 0)) 102 23 (-1)) 102 24 (-1)) 102 19 = nI (len + 1) := ((zU_nj (by decide)).trans ((zU_nj (by decide)).trans ((zU_nj (by decide)).trans (zU_eq))))
  exact ⟨h1.cg ((zU_nj (by decide)).trans ((zU_nj (by decide)).trans ((zU_nj (by decide)).trans ((zU_nj (by decide)).trans (zU_np (by decide)))))) (by rw [zU_row (by omega), zU_row (by omega), zU_row (by omega), zU_row (by omega), zU_row (by omega)]), h2.mkt (by omega) hb (fun k9 a => by rcases a with rfl | rfl | rfl | rfl <;> simp [zU]) (fun q a b => by rw [zU_row (by omega), zU_row (by omega), zU_row (by omega), zU_row (by omega), zU_row (by omega)]) h19 h12, Or.inl ((zU_nj (by decide)).trans ((zU_nj (by decide)).trans (zU_eq))), ⟨h4.1, ((zU_nj (by decide)).trans ((zU_nj (by decide)).trans ((zU_nj (by decide)).trans ((zU_nj (by decide)).trans ((zU_np (by decide)).trans (h4.2))))))⟩, ⟨((zU_nj (by decide)).trans (zU_eq)), (zU_eq)⟩, h6.mkt (by omega) hb ((zU_nj (by decide)).trans ((zU_nj (by decide)).trans ((zU_nj (by decide)).trans ((zU_nj (by decide)).trans (zU_np (by decide)))))) h19 h12 (fun q a => by rw [zU_row (by omega), zU_row (by omega), zU_row (by omega), zU_row (by omega), zU_row (by omega)])⟩
theorem go_write {n : Nat} {ch : Nat → Nat} {nn : Nat} {kd lf rt tx : Nat → Nat} {len ad mi wr bd nw : Nat} {wz : Nat → Nat} {wl : Nat → Nat → Nat} {f t : Int32} {Y Y1 : zY} {r : Int32} {k : Nat} (hX : IX Y n ch nn kd lf rt tx len ad mi wr bd nw wz wl f t) (hM : IM Y n ch nn kd lf rt tx len ad mi wr bd nw wz wl f t) (h1 : (((97 ≤ k ∧ k ≤ 122) ∧ len < 24) ∧ r = nI 1 ∧ Y1 = zU (zU (zU (zU Y 17 len (nI k)) 16 1 (nI (len + 1))) 0 8 (-1)) 0 9 (-1)) ∨ (¬ ((97 ≤ k ∧ k ≤ 122) ∧ len < 24) ∧ r = nI 0 ∧ Y1 = Y)) : IM Y1 n ch nn kd lf rt tx len ad mi wr bd nw wz wl f t ∧ ∀ (r2 : Int32) (Y2 : zY), ((((97 ≤ k ∧ k ≤ 122) ∧ len < 24) ∧ r2 = nI 1 ∧ Y2 = zU (zU (zU (zU (zU Y1 112 len (nI k)) 102 19 (nI (len + 1))) 102 21 (nI 0)) 102 23 (-1)) 102 24 (-1)) ∨ (¬ ((97 ≤ k ∧ k ≤ 122) ∧ len < 24) ∧ r2 = nI 0 ∧ Y2 = Y1)) → r = r2 ∧ LV Y2 := by
  rcases h1 with ⟨hc, rfl, hY⟩ | ⟨hc, rfl, rfl⟩
  · have hM1 : IM Y1 n ch nn kd lf rt tx len ad mi wr bd nw wz wl f t := hM.cg (fun q hq => by rw [hY, zU_row (by omega), zU_row (by omega), zU_row (by omega), zU_row (by omega)])
    subst hY
    refine ⟨hM1, fun r2 Y2 h2 => ?_⟩
    rcases h2 with ⟨hd, rfl, rfl⟩ | ⟨hd, -, -⟩
    · exact ⟨rfl, LV.mk ((hX.wrt hc.1 hc.2).cg (fun q hq => by rw [zU_row (by omega), zU_row (by omega), zU_row (by omega), zU_row (by omega), zU_row (by omega)])) (hM1.wrt hc.1 hc.2)⟩
    · exact absurd hc hd
  · refine ⟨hM, fun r2 Y2 h2 => ?_⟩
    rcases h2 with ⟨hd, -, -⟩ | ⟨hd, rfl, rfl⟩
    · exact absurd hd hc
    · exact ⟨rfl, LV.mk hX hM⟩
theorem IX.ers {n : Nat} {ch : Nat → Nat} {nn : Nat} {kd lf rt tx : Nat → Nat} {len ad mi wr bd nw : Nat} {wz : Nat → Nat} {wl : Nat → Nat → Nat} {f t : Int32} {Y : zY} (h : IX Y n ch nn kd lf rt tx len ad mi wr bd nw wz wl f t) : IX (zU (zU (zU (zU Y 16 1 (nI 0)) 18 2 (nI 0)) 0 8 (-1)) 0 9 (-1)) n ch nn kd lf rt tx 0 ad mi wr bd nw wz wl (-1) (-1) := by
  obtain ⟨h1, h2, ⟨sz, h3⟩, ⟨kn, hkn, h4⟩, h5, h6, h7⟩ := h
  have hL : LT (zU (zU (zU (zU Y 16 1 (nI 0)) 18 2 (nI 0)) 0 8 (-1)) 0 9 (-1)) 16 0 tx := ⟨by omega, ((zU_np (by decide)).trans ((zU_np (by decide)).trans ((zU_np (by decide)).trans (zU_eq)))), fun q hq => absurd hq (Nat.not_lt_zero _), fun q hq => absurd hq (Nat.not_lt_zero _)⟩
  exact ⟨h1.cg ((zU_nj (by decide)).trans ((zU_nj (by decide)).trans ((zU_np (by decide)).trans (zU_np (by decide))))) (by rw [zU_row (by omega), zU_row (by omega), zU_row (by omega), zU_row (by omega)]), h2.rows (fun q a b => by rw [zU_row (by omega), zU_row (by omega), zU_row (by omega), zU_row (by omega)]), ⟨sz, h3.mkt (by omega) hL.2.2.2 (fun q a b => by rw [zU_row (by omega), zU_row (by omega), zU_row (by omega), zU_row (by omega)]) hL.2.1 hL.2.2.1 (fun k9 a => by rcases a with rfl | rfl | rfl <;> simp [zU])⟩, ⟨0, Nat.zero_le _, XT.nil ((zU_np (by decide)).trans ((zU_np (by decide)).trans (zU_eq)))⟩, ⟨h5.1, ((zU_nj (by decide)).trans ((zU_nj (by decide)).trans ((zU_np (by decide)).trans ((zU_np (by decide)).trans (h5.2)))))⟩, ⟨((zU_nj (by decide)).trans (zU_eq)), (zU_eq)⟩, h7.tx (by rw [zU_row (by omega), zU_row (by omega), zU_row (by omega), zU_row (by omega)]) (fun q a b => by rw [zU_row (by omega), zU_row (by omega), zU_row (by omega), zU_row (by omega)]) hL⟩
theorem IM.ers {n : Nat} {ch : Nat → Nat} {nn : Nat} {kd lf rt tx : Nat → Nat} {len ad mi wr bd nw : Nat} {wz : Nat → Nat} {wl : Nat → Nat → Nat} {f t : Int32} {Y : zY} (h : IM Y n ch nn kd lf rt tx len ad mi wr bd nw wz wl f t) : IM (zU (zU (zU (zU Y 102 19 (nI 0)) 102 21 (nI 0)) 102 23 (-1)) 102 24 (-1)) n ch nn kd lf rt tx 0 ad mi wr bd nw wz wl (-1) (-1) := by
  obtain ⟨h1, h2, h3, h4, h5, h6⟩ := h
  exact ⟨h1.cg ((zU_nj (by decide)).trans ((zU_nj (by decide)).trans ((zU_nj (by decide)).trans (zU_nj (by decide))))) (by rw [zU_row (by omega), zU_row (by omega), zU_row (by omega), zU_row (by omega)]), h2.mkt (by omega) (fun q hq => absurd hq (Nat.not_lt_zero _)) (fun k9 a => by rcases a with rfl | rfl | rfl | rfl <;> simp [zU]) (fun q a b => by rw [zU_row (by omega), zU_row (by omega), zU_row (by omega), zU_row (by omega)]) ((zU_nj (by decide)).trans ((zU_nj (by decide)).trans ((zU_nj (by decide)).trans (zU_eq)))) (fun q hq => absurd hq (Nat.not_lt_zero _)), Or.inl ((zU_nj (by decide)).trans ((zU_nj (by decide)).trans (zU_eq))), ⟨h4.1, ((zU_nj (by decide)).trans ((zU_nj (by decide)).trans ((zU_nj (by decide)).trans ((zU_nj (by decide)).trans (h4.2)))))⟩, ⟨((zU_nj (by decide)).trans (zU_eq)), (zU_eq)⟩, h6.mkt (by omega) (fun q hq => absurd hq (Nat.not_lt_zero _)) ((zU_nj (by decide)).trans ((zU_nj (by decide)).trans ((zU_nj (by decide)).trans (zU_nj (by decide))))) ((zU_nj (by decide)).trans ((zU_nj (by decide)).trans ((zU_nj (by decide)).trans (zU_eq)))) (fun q hq => absurd hq (Nat.not_lt_zero _)) (fun q a => by rw [zU_row (by omega), zU_row (by omega), zU_row (by omega), zU_row (by omega)])⟩
theorem go_erase {n : Nat} {ch : Nat → Nat} {nn : Nat} {kd lf rt tx : Nat → Nat} {len ad mi wr bd nw : Nat} {wz : Nat → Nat} {wl : Nat → Nat → Nat} {f t : Int32} {Y Y1 : zY}  (hX : IX Y n ch nn kd lf rt tx len ad mi wr bd nw wz wl f t) (hM : IM Y n ch nn kd lf rt tx len ad mi wr bd nw wz wl f t) (h1 : Y1 = zU (zU (zU (zU Y 16 1 (nI 0)) 18 2 (nI 0)) 0 8 (-1)) 0 9 (-1)) : IM Y1 n ch nn kd lf rt tx len ad mi wr bd nw wz wl f t ∧ ∀ (Y2 : zY), Y2 = zU (zU (zU (zU Y1 102 19 (nI 0)) 102 21 (nI 0)) 102 23 (-1)) 102 24 (-1) → LV Y2 := by
  have hM1 : IM Y1 n ch nn kd lf rt tx len ad mi wr bd nw wz wl f t := hM.cg (fun q hq => by rw [h1, zU_row (by omega), zU_row (by omega), zU_row (by omega), zU_row (by omega)])
  subst h1
  refine ⟨hM1, fun Y2 h2 => ?_⟩
  subst h2
  exact LV.mk (hX.ers.cg (fun q hq => by rw [zU_row (by omega), zU_row (by omega), zU_row (by omega), zU_row (by omega)])) hM1.ers
theorem go_nodes {n : Nat} {ch : Nat → Nat} {nn : Nat} {kd lf rt tx : Nat → Nat} {len ad mi wr bd nw : Nat} {wz : Nat → Nat} {wl : Nat → Nat → Nat} {f t : Int32} {Y Y1 : zY} {r : Int32}  (hX : IX Y n ch nn kd lf rt tx len ad mi wr bd nw wz wl f t) (hM : IM Y n ch nn kd lf rt tx len ad mi wr bd nw wz wl f t) (h1 : r = Y 11 4 ∧ Y1 = Y) : IM Y1 n ch nn kd lf rt tx len ad mi wr bd nw wz wl f t ∧ ∀ (r2 : Int32) (Y2 : zY), (r2 = Y1 102 2 ∧ Y2 = Y1) → r = r2 ∧ LV Y2 := by
  obtain ⟨rfl, rfl⟩ := h1
  refine ⟨hM, fun r2 Y2 h2 => ?_⟩
  obtain ⟨rfl, rfl⟩ := h2
  exact ⟨hX.2.2.1.choose_spec.2.2.2.2.2.2.2.1.1.trans hM.2.1.2.2.2.2.2.2.1.symm, LV.mk hX hM⟩
theorem go_from {n : Nat} {ch : Nat → Nat} {nn : Nat} {kd lf rt tx : Nat → Nat} {len ad mi wr bd nw : Nat} {wz : Nat → Nat} {wl : Nat → Nat → Nat} {f t : Int32} {Y Y1 : zY} {r : Int32}  (hX : IX Y n ch nn kd lf rt tx len ad mi wr bd nw wz wl f t) (hM : IM Y n ch nn kd lf rt tx len ad mi wr bd nw wz wl f t) (h1 : r = Y 0 8 ∧ Y1 = Y) : IM Y1 n ch nn kd lf rt tx len ad mi wr bd nw wz wl f t ∧ ∀ (r2 : Int32) (Y2 : zY), (r2 = Y1 102 23 ∧ Y2 = Y1) → r = r2 ∧ LV Y2 := by
  obtain ⟨rfl, rfl⟩ := h1
  refine ⟨hM, fun r2 Y2 h2 => ?_⟩
  obtain ⟨rfl, rfl⟩ := h2
  exact ⟨hX.2.2.2.2.2.1.1.trans hM.2.2.2.2.1.1.symm, LV.mk hX hM⟩
theorem go_to {n : Nat} {ch : Nat → Nat} {nn : Nat} {kd lf rt tx : Nat → Nat} {len ad mi wr bd nw : Nat} {wz : Nat → Nat} {wl : Nat → Nat → Nat} {f t : Int32} {Y Y1 : zY} {r : Int32}  (hX : IX Y n ch nn kd lf rt tx len ad mi wr bd nw wz wl f t) (hM : IM Y n ch nn kd lf rt tx len ad mi wr bd nw wz wl f t) (h1 : r = Y 0 9 ∧ Y1 = Y) : IM Y1 n ch nn kd lf rt tx len ad mi wr bd nw wz wl f t ∧ ∀ (r2 : Int32) (Y2 : zY), (r2 = Y1 102 24 ∧ Y2 = Y1) → r = r2 ∧ LV Y2 := by
  obtain ⟨rfl, rfl⟩ := h1
  refine ⟨hM, fun r2 Y2 h2 => ?_⟩
  obtain ⟨rfl, rfl⟩ := h2
  exact ⟨hX.2.2.2.2.2.1.2.trans hM.2.2.2.2.1.2.symm, LV.mk hX hM⟩
theorem go_words {n : Nat} {ch : Nat → Nat} {nn : Nat} {kd lf rt tx : Nat → Nat} {len ad mi wr bd nw : Nat} {wz : Nat → Nat} {wl : Nat → Nat → Nat} {f t : Int32} {Y Y1 : zY} {r : Int32}  (hX : IX Y n ch nn kd lf rt tx len ad mi wr bd nw wz wl f t) (hM : IM Y n ch nn kd lf rt tx len ad mi wr bd nw wz wl f t) (h1 : r = Y 45 1 ∧ Y1 = Y) : IM Y1 n ch nn kd lf rt tx len ad mi wr bd nw wz wl f t ∧ ∀ (r2 : Int32) (Y2 : zY), (r2 = Y1 102 25 ∧ Y2 = Y1) → r = r2 ∧ LV Y2 := by
  obtain ⟨rfl, rfl⟩ := h1
  refine ⟨hM, fun r2 Y2 h2 => ?_⟩
  obtain ⟨rfl, rfl⟩ := h2
  exact ⟨hX.2.2.2.2.2.2.2.1.trans hM.2.2.2.2.2.2.2.2.2.1.symm, LV.mk hX hM⟩
theorem go_cost {n : Nat} {ch : Nat → Nat} {nn : Nat} {kd lf rt tx : Nat → Nat} {len ad mi wr bd nw : Nat} {wz : Nat → Nat} {wl : Nat → Nat → Nat} {f t : Int32} {Y Y1 : zY} {r : Int32} {i j : Int32} (hX : IX Y n ch nn kd lf rt tx len ad mi wr bd nw wz wl f t) (hM : IM Y n ch nn kd lf rt tx len ad mi wr bd nw wz wl f t) (h1 : r = cAI nn (cCost kd lf rt tx ad mi wr) len i j ∧ LK Y Y1 ∧ ∃ k, k ≤ len + 1 ∧ XT Y1 (cCost kd lf rt tx ad mi wr) nn k) : IM Y1 n ch nn kd lf rt tx len ad mi wr bd nw wz wl f t ∧ ∀ (r2 : Int32) (Y2 : zY), (r2 = cAI nn (cCost kd lf rt tx ad mi wr) len i j ∧ MK Y1 Y2 ∧ MT Y2 (cCost kd lf rt tx ad mi wr) len nn) → r = r2 ∧ LV Y2 := by
  obtain ⟨rfl, hk, hT⟩ := h1
  have hM1 : IM Y1 n ch nn kd lf rt tx len ad mi wr bd nw wz wl f t := hM.cg (fun q hq => hk.1 q (by omega) (by omega))
  refine ⟨hM1, fun r2 Y2 h2 => ?_⟩
  obtain ⟨rfl, hk2, hT2⟩ := h2
  exact ⟨rfl, LV.mk ((hX.lk hk hT).cg (fun q hq => hk2.1 q (by omega) (by omega))) (hM1.mk hk2 hT2)⟩
theorem go_ends {n : Nat} {ch : Nat → Nat} {nn : Nat} {kd lf rt tx : Nat → Nat} {len ad mi wr bd nw : Nat} {wz : Nat → Nat} {wl : Nat → Nat → Nat} {f t : Int32} {Y Y1 : zY} {r : Int32}  (hX : IX Y n ch nn kd lf rt tx len ad mi wr bd nw wz wl f t) (hM : IM Y n ch nn kd lf rt tx len ad mi wr bd nw wz wl f t) (h1 : r = eA (eM ((cCost kd lf rt tx ad mi wr) (nn - 1)) bd nn) (len + 1) ∧ LK Y Y1 ∧ ∃ k, k ≤ len + 1 ∧ XT Y1 (cCost kd lf rt tx ad mi wr) nn k) : IM Y1 n ch nn kd lf rt tx len ad mi wr bd nw wz wl f t ∧ ∀ (r2 : Int32) (Y2 : zY), (r2 = eA (eM ((cCost kd lf rt tx ad mi wr) (nn - 1)) bd nn) (len + 1) ∧ MK Y1 Y2 ∧ MT Y2 (cCost kd lf rt tx ad mi wr) len nn) → r = r2 ∧ LV Y2 := by
  obtain ⟨rfl, hk, hT⟩ := h1
  have hM1 : IM Y1 n ch nn kd lf rt tx len ad mi wr bd nw wz wl f t := hM.cg (fun q hq => hk.1 q (by omega) (by omega))
  refine ⟨hM1, fun r2 Y2 h2 => ?_⟩
  obtain ⟨rfl, hk2, hT2⟩ := h2
  exact ⟨rfl, LV.mk ((hX.lk hk hT).cg (fun q hq => hk2.1 q (by omega) (by omega))) (hM1.mk hk2 hT2)⟩
theorem go_find {n : Nat} {ch : Nat → Nat} {nn : Nat} {kd lf rt tx : Nat → Nat} {len ad mi wr bd nw : Nat} {wz : Nat → Nat} {wl : Nat → Nat → Nat} {f t : Int32} {Y Y1 : zY} {r : Int32} {be : Nat} (hX : IX Y n ch nn kd lf rt tx len ad mi wr bd nw wz wl f t) (hM : IM Y n ch nn kd lf rt tx len ad mi wr bd nw wz wl f t) (h1 : ∃ f1 t1, Fnd be ((cCost kd lf rt tx ad mi wr) (nn - 1)) bd len nn (len + 1) 0 f1 t1 ∧ r = fRes ((cCost kd lf rt tx ad mi wr) (nn - 1)) f1 t1 ∧ Y1 0 8 = f1 ∧ Y1 0 9 = t1 ∧ XKf Y Y1 ∧ ∃ k, k ≤ len + 1 ∧ XT Y1 (cCost kd lf rt tx ad mi wr) nn k) : IM Y1 n ch nn kd lf rt tx len ad mi wr bd nw wz wl f t ∧ ∀ (r2 : Int32) (Y2 : zY), (∃ f2 t2, Fnd be ((cCost kd lf rt tx ad mi wr) (nn - 1)) bd len nn (len + 1) 0 f2 t2 ∧ r2 = fRes ((cCost kd lf rt tx ad mi wr) (nn - 1)) f2 t2 ∧ Y2 102 23 = f2 ∧ Y2 102 24 = t2 ∧ MKf Y1 Y2 ∧ MT Y2 (cCost kd lf rt tx ad mi wr) len nn) → r = r2 ∧ LV Y2 := by
  obtain ⟨f1, t1, hF, rfl, e8, e9, hk, hT⟩ := h1
  have hM1 : IM Y1 n ch nn kd lf rt tx len ad mi wr bd nw wz wl f t := hM.cg (fun q hq => hk.1 q (by omega) (by omega) (by omega))
  refine ⟨hM1, fun r2 Y2 h2 => ?_⟩
  obtain ⟨f2, t2, hF2, rfl, g8, g9, hk2, hT2⟩ := h2
  obtain ⟨rfl, rfl⟩ := hF.one hF2
  exact ⟨rfl, LV.mk ((hX.xkf hk e8 e9 hT).cg (fun q hq => hk2.1 q (by omega) (by omega))) (hM1.mkf hk2 g8 g9 hT2)⟩
theorem go_distance {n : Nat} {ch : Nat → Nat} {nn : Nat} {kd lf rt tx : Nat → Nat} {len ad mi wr bd nw : Nat} {wz : Nat → Nat} {wl : Nat → Nat → Nat} {f t : Int32} {Y Y1 : zY} {r : Int32} {wd : Int32} {ex : Nat} (hX : IX Y n ch nn kd lf rt tx len ad mi wr bd nw wz wl f t) (hM : IM Y n ch nn kd lf rt tx len ad mi wr bd nw wz wl f t) (h1 : r = dA nw wz wl tx len ex wd ∧ KXd Y Y1 ∧ Y1 47 = Y 47) : IM Y1 n ch nn kd lf rt tx len ad mi wr bd nw wz wl f t ∧ ∀ (r2 : Int32) (Y2 : zY), (r2 = dA nw wz wl tx len ex wd ∧ MKd Y1 Y2) → r = r2 ∧ LV Y2 := by
  obtain ⟨rfl, hk, -⟩ := h1
  have hM1 : IM Y1 n ch nn kd lf rt tx len ad mi wr bd nw wz wl f t := hM.cg (fun q hq => hk q (by omega) (by omega))
  refine ⟨hM1, fun r2 Y2 h2 => ?_⟩
  obtain ⟨rfl, hk2⟩ := h2
  exact ⟨rfl, LV.mk ((hX.kxd hk).cg (fun q hq => hk2 q (by omega))) (hM1.mkd hk2)⟩
theorem go_near {n : Nat} {ch : Nat → Nat} {nn : Nat} {kd lf rt tx : Nat → Nat} {len ad mi wr bd nw : Nat} {wz : Nat → Nat} {wl : Nat → Nat → Nat} {f t : Int32} {Y Y1 : zY} {r : Int32} {wd : Int32} {ex : Nat} (hX : IX Y n ch nn kd lf rt tx len ad mi wr bd nw wz wl f t) (hM : IM Y n ch nn kd lf rt tx len ad mi wr bd nw wz wl f t) (h1 : r = nI (cN (nrN (fun w => dD (wl w) tx ex (wz w) len) wd) nw) ∧ KXd Y Y1) : IM Y1 n ch nn kd lf rt tx len ad mi wr bd nw wz wl f t ∧ ∀ (r2 : Int32) (Y2 : zY), (r2 = nI (cN (nrN (fun w => dD (wl w) tx ex (wz w) len) wd) nw) ∧ MKd Y1 Y2) → r = r2 ∧ LV Y2 := by
  obtain ⟨rfl, hk⟩ := h1
  have hM1 : IM Y1 n ch nn kd lf rt tx len ad mi wr bd nw wz wl f t := hM.cg (fun q hq => hk q (by omega) (by omega))
  refine ⟨hM1, fun r2 Y2 h2 => ?_⟩
  obtain ⟨rfl, hk2⟩ := h2
  exact ⟨rfl, LV.mk ((hX.kxd hk).cg (fun q hq => hk2 q (by omega))) (hM1.mkd hk2)⟩
theorem go_rank {n : Nat} {ch : Nat → Nat} {nn : Nat} {kd lf rt tx : Nat → Nat} {len ad mi wr bd nw : Nat} {wz : Nat → Nat} {wl : Nat → Nat → Nat} {f t : Int32} {Y Y1 : zY} {r : Int32} {wd : Int32} {ex : Nat} (hX : IX Y n ch nn kd lf rt tx len ad mi wr bd nw wz wl f t) (hM : IM Y n ch nn kd lf rt tx len ad mi wr bd nw wz wl f t) (h1 : rkP (fun x => cN (rkN wz wl (fun w => dD (wl w) tx ex (wz w) len) x) nw) nw wd r ∧ KXd Y Y1) : IM Y1 n ch nn kd lf rt tx len ad mi wr bd nw wz wl f t ∧ ∀ (r2 : Int32) (Y2 : zY), (rkP (fun x => cN (rkN wz wl (fun w => dD (wl w) tx ex (wz w) len) x) nw) nw wd r2 ∧ MKd Y1 Y2) → r = r2 ∧ LV Y2 := by
  obtain ⟨hr, hk⟩ := h1
  have hM1 : IM Y1 n ch nn kd lf rt tx len ad mi wr bd nw wz wl f t := hM.cg (fun q hq => hk q (by omega) (by omega))
  refine ⟨hM1, fun r2 Y2 h2 => ?_⟩
  obtain ⟨hr2, hk2⟩ := h2
  exact ⟨rkP_one hr hr2, LV.mk ((hX.kxd hk).cg (fun q hq => hk2 q (by omega))) (hM1.mkd hk2)⟩
theorem held_iff {n : Nat} {ch : Nat → Nat} {nn : Nat} {kd lf rt tx : Nat → Nat} {len ad mi wr bd nw : Nat} {wz : Nat → Nat} {wl : Nat → Nat → Nat} {f t : Int32} {Y : zY} (h : IM Y n ch nn kd lf rt tx len ad mi wr bd nw wz wl f t) {w : Nat} (hw : w < nw) : dD (wl w) tx 0 (wz w) len = 0 ↔ wz w = len ∧ ∀ i, i < wz w → wl w i = tx i := by
  obtain ⟨-, a2, a3, -⟩ := h.2.2.2.2.2
  have := (a3 w hw).2.1
  exact dD_zero _ _ _ rfl (by omega)
theorem XD.add {Y Z Y1 : zY} {nw : Nat} {wz : Nat → Nat} {wl : Nat → Nat → Nat} {tx : Nat → Nat} {len : Nat} (h : XD Y nw wz wl tx len) (e : Z = zU Y1 45 1 (nI (nw + 1))) (h0 : 0 < len) (h12 : len ≤ 12) (hn : nw < 20) (hL : LT Y1 (62 + 2 * nw) len tx) (hK : KL Y Y1 (62 + 2 * nw)) : XD Z (nw + 1) (cU wz nw len) (wU wl nw tx) tx len := by
  subst e
  have hk : ∀ q, q ≠ 62 + 2 * nw → q ≠ 62 + 2 * nw + 1 → q ≠ 45 → zU Y1 45 1 (nI (nw + 1)) q = Y q := fun q a b c => (zU_row c).trans (hK q a b)
  refine ⟨by omega, zU_eq, fun w hw => ?_, h.2.2.2.keep (hk _ (by omega) (by omega) (by omega)) (hk _ (by omega) (by omega) (by omega))⟩
  unfold cU wU
  by_cases g : w = nw
  · subst g
    rw [if_pos rfl, if_pos rfl]
    exact ⟨hL.keep (zU_row (by omega)) (zU_row (by omega)), h0, h12⟩
  · rw [if_neg g, if_neg g]
    have := h.2.2.1 w (by omega)
    exact ⟨this.1.keep (hk _ (by omega) (by omega) (by omega)) (hk _ (by omega) (by omega) (by omega)), this.2⟩
theorem IX.add {n : Nat} {ch : Nat → Nat} {nn : Nat} {kd lf rt tx : Nat → Nat} {len ad mi wr bd nw : Nat} {wz : Nat → Nat} {wl : Nat → Nat → Nat} {f t : Int32} {Y Y1 Y9 : zY} (h : IX Y n ch nn kd lf rt tx len ad mi wr bd nw wz wl f t) (e : Y1 = zU Y9 45 1 (nI (nw + 1))) (h0 : 0 < len) (h12 : len ≤ 12) (hn : nw < 20) (hL : LT Y9 (62 + 2 * nw) len tx) (hK : KL Y Y9 (62 + 2 * nw)) : IX Y1 n ch nn kd lf rt tx len ad mi wr bd (nw + 1) (cU wz nw len) (wU wl nw tx) f t := by
  obtain ⟨h1, h2, ⟨sz, h3⟩, ⟨kn, hkn, h4⟩, h5, h6, h7⟩ := h
  have h8 := h7.add e h0 h12 hn hL hK
  have hk : ∀ q, (q < 45 ∨ 102 ≤ q) → Y1 q = Y q := fun q a => by rw [e]; exact (zU_row (by omega)).trans (hK q (by omega) (by omega))
  exact ⟨h1.cg (congrFun (hk 0 (by omega)) 1) (hk 1 (by omega)), h2.rows (fun q a b => hk q (by omega)), ⟨sz, h3.cg (fun q a b => hk q (by omega)) (fun k9 _ => congrFun (hk 18 (by omega)) k9)⟩, ⟨kn, hkn, h4.cg h3.1.1 (congrFun (hk 18 (by omega)) 2) (fun q a b => hk q (by omega))⟩, ⟨h5.1, (congrFun (hk 0 (by omega)) 7).trans h5.2⟩, ⟨(congrFun (hk 0 (by omega)) 8).trans h6.1, (congrFun (hk 0 (by omega)) 9).trans h6.2⟩, h8⟩
theorem MD.add {Y Z : zY} {nw : Nat} {wz : Nat → Nat} {wl : Nat → Nat → Nat} {tx : Nat → Nat} {len : Nat} (h : MD Y nw wz wl tx len) (h0 : 0 < len) (h12 : len ≤ 12) (hn : nw < 20) (g : MAd Y Z nw tx len) : MD Z (nw + 1) (cU wz nw len) (wU wl nw tx) tx len := by
  obtain ⟨a1, a2, a3, a4, a5, a6, a7, a8⟩ := h
  obtain ⟨g1, g2, g3, g4, g5, g6, g7⟩ := g
  refine ⟨by omega, a2, fun w hw => ?_, a4, g3, (g2 19 (by decide)).trans a6, fun q hq => (congrFun (g1 112 (by decide) (by decide) (by decide) (by decide)) q).trans (a7 q hq), fun w hw => ?_⟩
  · unfold cU wU
    by_cases e : w = nw
    · rw [if_pos e, if_pos e]; exact ⟨h0, h12, fun k hk => a4 k hk⟩
    · rw [if_neg e, if_neg e]; exact a3 w (by omega)
  · unfold cU wU
    by_cases e : w = nw
    · subst e; rw [if_pos rfl, if_pos rfl]; exact ⟨g5, fun k hk => g7 k hk⟩
    · rw [if_neg e, if_neg e]
      have h1 := a3 w (by omega)
      exact ⟨(g4 w e).trans (a8 w (by omega)).1, fun k hk => (g6 _ (by omega)).trans ((a8 w (by omega)).2 k hk)⟩
theorem IM.add {n : Nat} {ch : Nat → Nat} {nn : Nat} {kd lf rt tx : Nat → Nat} {len ad mi wr bd nw : Nat} {wz : Nat → Nat} {wl : Nat → Nat → Nat} {f t : Int32} {Y Y1 : zY} (h : IM Y n ch nn kd lf rt tx len ad mi wr bd nw wz wl f t) (h0 : 0 < len) (h12 : len ≤ 12) (hn : nw < 20) (g : MAd Y Y1 nw tx len) : IM Y1 n ch nn kd lf rt tx len ad mi wr bd (nw + 1) (cU wz nw len) (wU wl nw tx) f t := by
  obtain ⟨h1, h2, h3, h4, h5, h6⟩ := h
  have h7 := h6.add h0 h12 hn g
  obtain ⟨g1, g2, g3, g4, g5, g6, g7⟩ := g
  exact ⟨h1.cg (g2 0 (by decide)) (g1 103 (by decide) (by decide) (by decide) (by decide)), h2.cg (fun k9 a => g2 k9 (by omega)) (fun q a => g1 q (by omega) (by omega) (by omega) (by omega)), h3.cg (g2 21 (by decide)) (g1 113 (by decide) (by decide) (by decide) (by decide)), ⟨h4.1, (g2 18 (by decide)).trans h4.2⟩, ⟨(g2 23 (by decide)).trans h5.1, (g2 24 (by decide)).trans h5.2⟩, h7⟩
theorem go_add {n : Nat} {ch : Nat → Nat} {nn : Nat} {kd lf rt tx : Nat → Nat} {len ad mi wr bd nw : Nat} {wz : Nat → Nat} {wl : Nat → Nat → Nat} {f t : Int32} {Y Y1 : zY} {r : Int32}  (hX : IX Y n ch nn kd lf rt tx len ad mi wr bd nw wz wl f t) (hM : IM Y n ch nn kd lf rt tx len ad mi wr bd nw wz wl f t) (h1 : (r = -1 ∧ Y1 = Y ∧ (len = 0 ∨ 12 < len ∨ nw = 20 ∨ ∃ w, w < nw ∧ wz w = len ∧ ∀ i, i < wz w → wl w i = tx i)) ∨ (r = nI nw ∧ 0 < len ∧ len ≤ 12 ∧ nw < 20 ∧ ¬ (∃ w, w < nw ∧ wz w = len ∧ ∀ i, i < wz w → wl w i = tx i) ∧ ∃ Y9, Y1 = zU Y9 45 1 (nI (nw + 1)) ∧ LT Y9 (62 + 2 * nw) len tx ∧ KL Y Y9 (62 + 2 * nw))) : IM Y1 n ch nn kd lf rt tx len ad mi wr bd nw wz wl f t ∧ ∀ (r2 : Int32) (Y2 : zY), ((r2 = -1 ∧ MKd Y1 Y2 ∧ (len = 0 ∨ 12 < len ∨ nw = 20 ∨ ∃ w, w < nw ∧ dD (wl w) tx 0 (wz w) len = 0)) ∨ (r2 = nI nw ∧ 0 < len ∧ len ≤ 12 ∧ nw < 20 ∧ (∀ w, w < nw → dD (wl w) tx 0 (wz w) len ≠ 0) ∧ MAd Y1 Y2 nw tx len)) → r = r2 ∧ LV Y2 := by
  rcases h1 with ⟨rfl, rfl, hno⟩ | ⟨rfl, h0, h12, hn, hnew, Y9, e9, hL, hK⟩
  · refine ⟨hM, fun r2 Y2 h2 => ?_⟩
    rcases h2 with ⟨rfl, hk2, -⟩ | ⟨-, g0, g12, gn, gnew, -⟩
    · exact ⟨rfl, LV.mk (hX.cg (fun q hq => hk2 q (by omega))) (hM.mkd hk2)⟩
    · exfalso
      rcases hno with e | e | e | ⟨w, hw, hs⟩
      · omega
      · omega
      · omega
      · exact gnew w hw ((held_iff hM hw).mpr hs)
  · have hM1 : IM Y1 n ch nn kd lf rt tx len ad mi wr bd nw wz wl f t := hM.cg (fun q hq => by rw [e9]; exact (zU_row (by omega)).trans (hK q (by omega) (by omega)))
    refine ⟨hM1, fun r2 Y2 h2 => ?_⟩
    rcases h2 with ⟨-, -, gno⟩ | ⟨rfl, g0, g12, gn, gnew, gA⟩
    · exfalso
      rcases gno with e | e | e | ⟨w, hw, hs⟩
      · omega
      · omega
      · omega
      · exact hnew ⟨w, hw, (held_iff hM hw).mp hs⟩
    · exact ⟨rfl, LV.mk ((hX.add e9 h0 h12 hn hL hK).cg (fun q hq => gA.1 q (by omega) (by omega) (by omega) (by omega))) (hM1.add h0 h12 hn gA)⟩
theorem IX.kc {n : Nat} {ch : Nat → Nat} {nn : Nat} {kd lf rt tx : Nat → Nat} {len ad mi wr bd nw : Nat} {wz : Nat → Nat} {wl : Nat → Nat → Nat} {f t : Int32} {Y Y1 : zY} (h : IX Y n ch nn kd lf rt tx len ad mi wr bd nw wz wl f t) (g : KC Y Y1) (hr : XR Y1) (h1 : Y1 0 1 = nI 0) : IX Y1 0 ch nn kd lf rt tx len ad mi wr bd nw wz wl f t := by
  obtain ⟨-, -, ⟨sz, h3⟩, ⟨kn, hkn, h4⟩, h5, h6, h7⟩ := h
  exact ⟨TY.nil h1, hr, ⟨sz, h3.cg (fun q a b => g.1 q (by omega) (by omega)) (fun k9 _ => congrFun (g.1 18 (by omega) (by omega)) k9)⟩, ⟨kn, hkn, h4.cg h3.1.1 (congrFun (g.1 18 (by omega) (by omega)) 2) (fun q a b => g.1 q (by omega) (by omega))⟩, ⟨h5.1, (g.2 7 (by decide)).trans h5.2⟩, ⟨(g.2 8 (by decide)).trans h6.1, (g.2 9 (by decide)).trans h6.2⟩, h7.cg (congrFun (g.1 45 (by omega) (by omega)) 1) (fun q a => g.1 q (by omega) (by omega))⟩
theorem IX.kcp {n : Nat} {ch : Nat → Nat} {nn : Nat} {kd lf rt tx : Nat → Nat} {len ad mi wr bd nw : Nat} {wz : Nat → Nat} {wl : Nat → Nat → Nat} {f t : Int32} {Y Y1 : zY} {n2 : Nat} {k2 l2 r2 s2 : Nat → Nat} (h : IX Y n ch nn kd lf rt tx len ad mi wr bd nw wz wl f t) (g : KCp Y Y1) (hr : XR Y1) (h1 : Y1 0 1 = nI 0) (hw : wfN n2 k2 l2 r2) (hs : szN n2 k2 l2 r2 s2) (hP : XP Y1 11 n2 k2 l2 r2) (e2 : Y1 18 2 = nI 0) (e8 : Y1 0 8 = -1) (e9 : Y1 0 9 = -1) : IX Y1 0 ch n2 k2 l2 r2 tx len ad mi wr bd nw wz wl (-1) (-1) := by
  obtain ⟨-, -, ⟨sz, h3⟩, ⟨kn, hkn, h4⟩, h5, h6, h7⟩ := h
  exact ⟨TY.nil h1, hr, ⟨s2, h3.pat hw hs hP (g.1 16 (by omega) (by omega) (by omega)) (g.1 17 (by omega) (by omega) (by omega)) (fun k9 a => g.2.2 k9 (by omega))⟩, ⟨0, Nat.zero_le _, XT.nil e2⟩, ⟨h5.1, (g.2.1 7 (by decide) (by decide) (by decide)).trans h5.2⟩, ⟨e8, e9⟩, h7.cg (congrFun (g.1 45 (by omega) (by omega) (by omega)) 1) (fun q a => g.1 q (by omega) (by omega) (by omega))⟩
theorem IM.kmx {n : Nat} {ch : Nat → Nat} {nn : Nat} {kd lf rt tx : Nat → Nat} {len ad mi wr bd nw : Nat} {wz : Nat → Nat} {wl : Nat → Nat → Nat} {f t : Int32} {Y Y1 : zY} (h : IM Y n ch nn kd lf rt tx len ad mi wr bd nw wz wl f t) (g : KMx Y Y1) (h1 : Y1 102 0 = nI 0) : IM Y1 0 ch nn kd lf rt tx len ad mi wr bd nw wz wl f t := by
  obtain ⟨-, h2, h3, h4, h5, h6⟩ := h
  exact ⟨TY.nil h1, h2.cg (fun k9 a => g.2 k9 (by omega) (by omega) (by omega) (by omega) (by omega)) (fun q a => g.1 q (by omega)), h3.cg (g.2 21 (by omega) (by omega) (by omega) (by omega) (by omega)) (g.1 113 (by omega)), ⟨h4.1, (g.2 18 (by omega) (by omega) (by omega) (by omega) (by omega)).trans h4.2⟩, ⟨(g.2 23 (by omega) (by omega) (by omega) (by omega) (by omega)).trans h5.1, (g.2 24 (by omega) (by omega) (by omega) (by omega) (by omega)).trans h5.2⟩, h6.cg (fun k9 a => g.2 k9 (by omega) (by omega) (by omega) (by omega) (by omega)) (fun q a => g.1 q (by omega))⟩
theorem IM.kmp {n : Nat} {ch : Nat → Nat} {nn : Nat} {kd lf rt tx : Nat → Nat} {len ad mi wr bd nw : Nat} {wz : Nat → Nat} {wl : Nat → Nat → Nat} {f t : Int32} {Y Y1 : zY} {U : nY} (h : IM Y n ch nn kd lf rt tx len ad mi wr bd nw wz wl f t) (g : KMp Y Y1) (h1 : Y1 102 0 = nI 0) (hw : wfN (U 0 2) (U 1) (U 2) (U 3)) (e2 : Y1 102 2 = nI (U 0 2)) (hP : CPm Y1 U (U 0 2)) (e21 : Y1 102 21 = nI 0) (e8 : Y1 102 23 = -1) (e9 : Y1 102 24 = -1) : IM Y1 0 ch (U 0 2) (U 1) (U 2) (U 3) tx len ad mi wr bd nw wz wl (-1) (-1) := by
  obtain ⟨-, h2, h3, h4, h5, h6⟩ := h
  have gk : ∀ k, k = 15 ∨ k = 16 ∨ k = 17 ∨ k = 18 ∨ k = 19 ∨ k = 25 → Y1 102 k = Y 102 k := fun k a => g.2 k (by omega) (by omega) (by omega) (by omega) (by omega) (by omega) (by omega) (by omega) (by omega)
  exact ⟨TY.nil h1, h2.pat hw e2 (fun k9 a => gk k9 (by omega)) (g.1 112 (by omega)) hP, Or.inl e21, ⟨h4.1, (gk 18 (by omega)).trans h4.2⟩, ⟨e8, e9⟩, h6.cg (fun k9 a => gk k9 (by omega)) (fun q a => g.1 q (by omega))⟩
theorem go_compile {n : Nat} {ch : Nat → Nat} {nn : Nat} {kd lf rt tx : Nat → Nat} {len ad mi wr bd nw : Nat} {wz : Nat → Nat} {wl : Nat → Nat → Nat} {f t : Int32} {Y Y1 : zY} {r : Int32} {T9 : nY} (hB : RB 190 T9) (hX : IX Y n ch nn kd lf rt tx len ad mi wr bd nw wz wl f t) (hM : IM Y n ch nn kd lf rt tx len ad mi wr bd nw wz wl f t) (h1 : ∃ q, fltR (sNew T9) ch n q ∧ ((q ≠ -1 ∧ r = q ∧ KC Y Y1) ∨ (q = -1 ∧ ∃ U, sRun (sNew T9) ch n = some U ∧ ((24 < sEnd U 0 2 ∧ r = -2 ∧ KC Y Y1) ∨ (sEnd U 0 2 ≤ 24 ∧ r = -1 ∧ XP Y1 11 (sEnd U 0 2) (sEnd U 1) (sEnd U 2) (sEnd U 3) ∧ KCp Y Y1 ∧ Y1 18 2 = nI 0 ∧ Y1 0 8 = -1 ∧ Y1 0 9 = -1)))) ∧ XR Y1 ∧ Y1 0 1 = nI 0) : IM Y1 n ch nn kd lf rt tx len ad mi wr bd nw wz wl f t ∧ ∀ (r2 : Int32) (Y2 : zY), (∃ q, fltR (sNew T9) ch n q ∧ ((q ≠ -1 ∧ r2 = q ∧ KMx Y1 Y2) ∨ (q = -1 ∧ ∃ U, sRun (sNew T9) ch n = some U ∧ ((24 < sEnd U 0 2 ∧ r2 = -2 ∧ KMx Y1 Y2) ∨ (sEnd U 0 2 ≤ 24 ∧ r2 = -1 ∧ Y2 102 2 = nI (sEnd U 0 2) ∧ CPm Y2 (sEnd U) (sEnd U 0 2) ∧ KMp Y1 Y2 ∧ Y2 102 21 = nI 0 ∧ Y2 102 23 = -1 ∧ Y2 102 24 = -1)))) ∧ Y2 102 0 = nI 0) → r = r2 ∧ LV Y2 := by
  obtain ⟨q, hf, hc, hr, h01⟩ := h1
  have hn := hX.1.1
  have hM1 : IM Y1 n ch nn kd lf rt tx len ad mi wr bd nw wz wl f t := by
    rcases hc with ⟨-, -, g⟩ | ⟨-, U, -, ⟨-, -, g⟩ | ⟨-, -, -, g, -⟩⟩
    · exact hM.cg (fun a ha => g.1 a (by omega) (by omega))
    · exact hM.cg (fun a ha => g.1 a (by omega) (by omega))
    · exact hM.cg (fun a ha => g.1 a (by omega) (by omega) (by omega))
  refine ⟨hM1, fun r2 Y2 h2 => ?_⟩
  obtain ⟨q2, hf2, hc2, h02⟩ := h2
  have hq := fltR_one hf hf2
  subst hq
  rcases hc with ⟨hq, rfl, g⟩ | ⟨hq, U, hU, hc⟩
  · rcases hc2 with ⟨-, rfl, g2⟩ | ⟨hq2, -⟩
    · exact ⟨rfl, LV.mk ((hX.kc g hr h01).cg (fun a ha => g2.1 a (by omega))) (hM1.kmx g2 h02)⟩
    · exact absurd hq2 hq
  · rcases hc2 with ⟨hq2, -⟩ | ⟨-, U2, hU2, hc2⟩
    · exact absurd hq hq2
    have hUU : U = U2 := Option.some.inj (hU.symm.trans hU2)
    subst hUU
    rcases hc with ⟨hl, rfl, g⟩ | ⟨hl, rfl, hP, g, e2, e8, e9⟩
    · rcases hc2 with ⟨-, rfl, g2⟩ | ⟨hl2, -⟩
      · exact ⟨rfl, LV.mk ((hX.kc g hr h01).cg (fun a ha => g2.1 a (by omega))) (hM1.kmx g2 h02)⟩
      · omega
    · rcases hc2 with ⟨hl2, -⟩ | ⟨-, rfl, m2, mP, g2, m21, m8, m9⟩
      · omega
      · have hok : okS U := ok_of hf hU hq (by omega)
        obtain ⟨-, w, hw⟩ := sEnd_wf ((sNew_G0 hB).run n (by omega) U hU) (by omega) hok
        obtain ⟨w1, w2⟩ := hw.wf hl
        exact ⟨rfl, LV.mk ((hX.kcp g hr h01 w1 w2 hP e2 e8 e9).cg (fun a ha => g2.1 a (by omega))) (hM1.kmp (U := sEnd U) g2 h02 w1 m2 mP m21 m8 m9)⟩
