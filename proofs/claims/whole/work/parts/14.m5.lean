/-! ===== distances, orders ===== -/
def d0 (p q : Nat) : Nat := if p = 0 ∧ q = 0 then 0 else 1000
def d1 (D : Nat → Nat → Nat) (p q : Nat) : Nat := if 0 < p then (if D (p - 1) q + 1 < d0 p q then D (p - 1) q + 1 else d0 p q) else d0 p q
def d2 (D : Nat → Nat → Nat) (p q : Nat) : Nat := if 0 < q then (if D p (q - 1) + 1 < d1 D p q then D p (q - 1) + 1 else d1 D p q) else d1 D p q
def dE (a b : Nat → Nat) (p q : Nat) : Nat := if a (p - 1) = b (q - 1) then 0 else 1
def d3 (a b : Nat → Nat) (D : Nat → Nat → Nat) (p q : Nat) : Nat := if 0 < p ∧ 0 < q then (if D (p - 1) (q - 1) + dE a b p q < d2 D p q then D (p - 1) (q - 1) + dE a b p q else d2 D p q) else d2 D p q
def d4 (a b : Nat → Nat) (ex : Nat) (D : Nat → Nat → Nat) (p q : Nat) : Nat := if ex ≠ 0 ∧ 1 < p ∧ 1 < q ∧ a (p - 1) = b (q - 2) ∧ a (p - 2) = b (q - 1) then (if D (p - 2) (q - 2) + 1 < d3 a b D p q then D (p - 2) (q - 2) + 1 else d3 a b D p q) else d3 a b D p q
def dF (a b : Nat → Nat) (ex : Nat) : Nat → Nat → Nat → Nat
  | 0 => fun _ _ => 0
  | n + 1 => d4 a b ex (dF a b ex n)
/-- the distance of the first p letters of a from the first q of b -/
def dD (a b : Nat → Nat) (ex p q : Nat) : Nat := dF a b ex (p + q + 1) p q
theorem d4_congr {a b : Nat → Nat} {ex : Nat} {D E : Nat → Nat → Nat} {p q : Nat} (h : ∀ p' q', p' + q' < p + q → D p' q' = E p' q') : d4 a b ex D p q = d4 a b ex E p q := by
  have e1 : d1 D p q = d1 E p q := by
    unfold d1; by_cases h0 : 0 < p
    · rw [if_pos h0, if_pos h0, h _ _ (by omega)]
    · rw [if_neg h0, if_neg h0]
  have e2 : d2 D p q = d2 E p q := by
    unfold d2; by_cases h0 : 0 < q
    · rw [if_pos h0, if_pos h0, h _ _ (by omega), e1]
    · rw [if_neg h0, if_neg h0, e1]
  have e3 : d3 a b D p q = d3 a b E p q := by
    unfold d3; by_cases h0 : 0 < p ∧ 0 < q
    · rw [if_pos h0, if_pos h0, h _ _ (by omega), e2]
    · rw [if_neg h0, if_neg h0, e2]
  unfold d4; by_cases h0 : ex ≠ 0 ∧ 1 < p ∧ 1 < q ∧ a (p - 1) = b (q - 2) ∧ a (p - 2) = b (q - 1)
  · rw [if_pos h0, if_pos h0, h _ _ (by omega), e3]
  · rw [if_neg h0, if_neg h0, e3]
theorem dF_stable {a b : Nat → Nat} {ex : Nat} : ∀ n p q, p + q < n → dF a b ex n p q = dD a b ex p q := by
  intro n
  induction n using Nat.strongRecOn with
  | ind n ih =>
    intro p q h
    cases n with
    | zero => omega
    | succ n =>
      show d4 a b ex (dF a b ex n) p q = d4 a b ex (dF a b ex (p + q)) p q
      refine d4_congr (fun p' q' h2 => ?_)
      rw [ih n (by omega) p' q' (by omega)]
      by_cases e : n = p + q
      · subst e; exact (ih _ (by omega) p' q' (by omega)).symm
      · exact (ih (p + q) (by omega) p' q' (by omega)).symm
theorem dD_eq {a b : Nat → Nat} {ex p q : Nat} : dD a b ex p q = d4 a b ex (dD a b ex) p q := by
  show d4 a b ex (dF a b ex (p + q)) p q = _
  exact d4_congr (fun p' q' h => dF_stable _ _ _ h)
theorem d1_le {D : Nat → Nat → Nat} {p q : Nat} : d1 D p q ≤ d0 p q := by unfold d1; split; split <;> omega; omega
theorem d2_le {D : Nat → Nat → Nat} {p q : Nat} : d2 D p q ≤ d1 D p q := by unfold d2; split; split <;> omega; omega
theorem d3_le {a b : Nat → Nat} {D : Nat → Nat → Nat} {p q : Nat} : d3 a b D p q ≤ d2 D p q := by unfold d3; split; split <;> omega; omega
theorem d4_le {a b : Nat → Nat} {ex : Nat} {D : Nat → Nat → Nat} {p q : Nat} : d4 a b ex D p q ≤ d3 a b D p q := by unfold d4; split; split <;> omega; omega
theorem dD_le {a b : Nat → Nat} {ex : Nat} : ∀ n p q, p + q = n → dD a b ex p q ≤ p + q := by
  intro n
  induction n using Nat.strongRecOn with
  | ind n ih =>
    intro p q h
    rw [dD_eq]
    have h1 := d4_le (a := a) (b := b) (ex := ex) (D := dD a b ex) (p := p) (q := q)
    have h2 := d3_le (a := a) (b := b) (D := dD a b ex) (p := p) (q := q)
    have h3 := d2_le (D := dD a b ex) (p := p) (q := q)
    have h4 := d1_le (D := dD a b ex) (p := p) (q := q)
    by_cases hp : 0 < p
    · have h5 := ih (p - 1 + q) (by omega) (p - 1) q rfl
      have h6 : d1 (dD a b ex) p q ≤ dD a b ex (p - 1) q + 1 := by unfold d1; rw [if_pos hp]; split <;> omega
      omega
    · by_cases hq : 0 < q
      · have h5 := ih (p + (q - 1)) (by omega) p (q - 1) rfl
        have h6 : d2 (dD a b ex) p q ≤ dD a b ex p (q - 1) + 1 := by unfold d2; rw [if_pos hq]; split <;> omega
        omega
      · have h7 : d0 p q = 0 := by unfold d0; rw [if_pos (by omega)]
        omega
/-- the letters a (n of them) come before b (m) in the dictionary's order -/
def LX (a : Nat → Nat) (n : Nat) (b : Nat → Nat) (m : Nat) : Prop := ∃ k, k ≤ n ∧ k ≤ m ∧ (∀ i, i < k → a i = b i) ∧ ((k = n ∧ k < m) ∨ (k < n ∧ k < m ∧ a k < b k))
theorem LX_end {a b : Nat → Nat} {n m k : Nat} (h1 : k ≤ n) (h2 : k ≤ m) (he : ∀ i, i < k → a i = b i) (h : k = n ∨ k = m) : LX a n b m ↔ n < m := by
  constructor
  · rintro ⟨k', g1, g2, g3, g4⟩
    rcases g4 with g4 | ⟨g4, g5, g6⟩
    · omega
    · by_cases e : k' < k
      · have := he k' e; omega
      · omega
  · intro h3
    exact ⟨k, h1, h2, he, by omega⟩
theorem LX_at {a b : Nat → Nat} {n m k : Nat} (h1 : k < n) (h2 : k < m) (he : ∀ i, i < k → a i = b i) (h : a k ≠ b k) : LX a n b m ↔ a k < b k := by
  constructor
  · rintro ⟨k', g1, g2, g3, g4⟩
    rcases Nat.lt_trichotomy k' k with e | e | e
    · have := he k' e; omega
    · subst e; omega
    · exact absurd (g3 k e) h
  · intro h3
    exact ⟨k, by omega, by omega, he, by omega⟩
/-- how many of the first n are counted -/
def cN (f : Nat → Nat) : Nat → Nat
  | 0 => 0
  | n + 1 => cN f n + f n
theorem cN_le {f : Nat → Nat} (h : ∀ k, f k ≤ 1) : ∀ n, cN f n ≤ n
  | 0 => Nat.le_refl _
  | n + 1 => by have := cN_le h n; have := h n; simp only [cN]; omega
/-- what the model holds of dictionary and text -/
def MD (Y : zY) (nw : Nat) (sz : Nat → Nat) (lt : Nat → Nat → Nat) (tx : Nat → Nat) (len : Nat) : Prop := nw ≤ 20 ∧ len ≤ 24 ∧ (∀ w, w < nw → 1 ≤ sz w ∧ sz w ≤ 12 ∧ ∀ k, k < sz w → 97 ≤ lt w k ∧ lt w k ≤ 122) ∧ (∀ q, q < len → 97 ≤ tx q ∧ tx q ≤ 122) ∧ Y 102 25 = nI nw ∧ Y 102 19 = nI len ∧ (∀ q, q < len → Y 112 q = nI (tx q)) ∧ (∀ w, w < nw → Y 114 w = nI (sz w) ∧ ∀ k, k < sz w → Y 115 (12 * w + k) = nI (lt w k))
def MKd (Y Z : zY) : Prop := ∀ q, q ≠ 116 → Z q = Y q
theorem MD.keep {Y Z : zY} {nw : Nat} {sz : Nat → Nat} {lt : Nat → Nat → Nat} {tx : Nat → Nat} {len : Nat} (h : MD Y nw sz lt tx len) (k : MKd Y Z) : MD Z nw sz lt tx len := by
  obtain ⟨a1, a2, a3, a4, a5, a6, a7, a8⟩ := h
  refine ⟨a1, a2, a3, a4, ?_, ?_, ?_, ?_⟩
  · rw [k 102 (by decide)]; exact a5
  · rw [k 102 (by decide)]; exact a6
  · rw [k 112 (by decide)]; exact a7
  · rw [k 114 (by decide), k 115 (by decide)]; exact a8
theorem MKd.rf {Y : zY} : MKd Y Y := fun _ _ => rfl
theorem MKd.trans {X Y Z : zY} (h : MKd X Y) (h2 : MKd Y Z) : MKd X Z := fun q a => (h2 q a).trans (h q a)
theorem MKd.put {Y Z : zY} {j : Nat} {v : Int32} (h : MKd Y Z) : MKd Y (zU Z 116 j v) := fun q a => (zU_row a).trans (h q a)
/-- the cells of the steps before (p, q) -/
def SDd (Y : zY) (D : Nat → Nat → Nat) (len p q : Nat) : Prop := ∀ a b, b ≤ len → (a < p ∨ a = p ∧ b < q) → Y 116 (25 * a + b) = nI (D a b)
theorem SDd.put {Y : zY} {D : Nat → Nat → Nat} {len p q : Nat} (h : SDd Y D len p q) (hl : len ≤ 24) (hq : q ≤ 24) : SDd (zU Y 116 (25 * p + q) (nI (D p q))) D len p (q + 1) := by
  intro a b h1 h2
  by_cases e : a = p ∧ b = q
  · obtain ⟨rfl, rfl⟩ := e; exact zU_eq
  · exact (zU_nj (by omega)).trans (h a b h1 (by omega))
theorem SDd.next {Y : zY} {D : Nat → Nat → Nat} {len p q : Nat} (h : SDd Y D len p q) (hq : len < q) : SDd Y D len (p + 1) 0 := fun a b h1 h2 => h a b h1 (by omega)
def dA (nw : Nat) (sz : Nat → Nat) (lt : Nat → Nat → Nat) (tx : Nat → Nat) (len ex : Nat) (w : Int32) : Int32 := if w < 0 ∨ nI nw ≤ w then -1 else nI (dD (lt w.toNatClampNeg) tx ex (sz w.toNatClampNeg) len)
theorem dA_nat {nw : Nat} {sz : Nat → Nat} {lt : Nat → Nat → Nat} {tx : Nat → Nat} {len ex w : Nat} (h : w < nw) (hn : nw ≤ 20) : dA nw sz lt tx len ex (nI w) = nI (dD (lt w) tx ex (sz w) len) := by
  unfold dA
  rw [nI_clamp (by omega), if_neg]
  rintro (h1 | h1)
  · exact nI_pos (by omega) h1
  · have := (nI_leI (by omega) (by omega)).mp h1; omega
/-- whether word v comes before word w, as rank counts -/
def rkB (sz : Nat → Nat) (lt : Nat → Nat → Nat) (dd : Nat → Nat) (w v : Nat) : Prop := dd v < dd w ∨ (dd v = dd w ∧ LX (lt v) (sz v) (lt w) (sz w))
noncomputable def rkN (sz : Nat → Nat) (lt : Nat → Nat → Nat) (dd : Nat → Nat) (w v : Nat) : Nat := by
  classical exact if rkB sz lt dd w v then 1 else 0
theorem rkN_le {sz : Nat → Nat} {lt : Nat → Nat → Nat} {dd : Nat → Nat} {w v : Nat} : rkN sz lt dd w v ≤ 1 := by unfold rkN; split <;> omega
theorem rkN_1 {sz : Nat → Nat} {lt : Nat → Nat → Nat} {dd : Nat → Nat} {w v : Nat} (h : rkB sz lt dd w v) : rkN sz lt dd w v = 1 := by unfold rkN; exact if_pos h
theorem rkN_0 {sz : Nat → Nat} {lt : Nat → Nat → Nat} {dd : Nat → Nat} {w v : Nat} (h : ¬ rkB sz lt dd w v) : rkN sz lt dd w v = 0 := by unfold rkN; exact if_neg h
/-- x is the first w with f w = r, or -1 -/
def rkP (f : Nat → Nat) (nw : Nat) (r x : Int32) : Prop := (∃ w, w < nw ∧ nI (f w) = r ∧ (∀ v, v < w → nI (f v) ≠ r) ∧ x = nI w) ∨ ((∀ v, v < nw → nI (f v) ≠ r) ∧ x = -1)
def nrN (dd : Nat → Nat) (k : Int32) (w : Nat) : Nat := if nI (dd w) ≤ k then 1 else 0
theorem nrN_le {dd : Nat → Nat} {k : Int32} {w : Nat} : nrN dd k w ≤ 1 := by unfold nrN; split <;> omega
def MA2 (Y Z : zY) (nw : Nat) (tx : Nat → Nat) (len k : Nat) : Prop := (∀ q, q ≠ 116 → q ≠ 115 → q ≠ 114 → Z q = Y q) ∧ (∀ w, w ≠ nw → Z 114 w = Y 114 w) ∧ Z 114 nw = nI len ∧ (∀ i, i < 12 * nw → Z 115 i = Y 115 i) ∧ ∀ j, j < k → Z 115 (12 * nw + j) = nI (tx j)
theorem MA2.mk {Y Z : zY} {nw : Nat} {tx : Nat → Nat} {len : Nat} (h : MKd Y Z) : MA2 Y (zU Z 114 nw (nI len)) nw tx len 0 := ⟨fun q a b c => (zU_row c).trans (h q a), fun w hw => (zU_nj hw).trans (congrFun (h 114 (by decide)) w), zU_eq, fun i _ => (zU_np (by decide)).trans (congrFun (h 115 (by decide)) i), fun j hj => absurd hj (Nat.not_lt_zero _)⟩
theorem MA2.put {Y Z : zY} {nw : Nat} {tx : Nat → Nat} {len k : Nat} (h : MA2 Y Z nw tx len k) : MA2 Y (zU Z 115 (12 * nw + k) (nI (tx k))) nw tx len (k + 1) := ⟨fun q a b c => (zU_row b).trans (h.1 q a b c), fun w hw => (zU_np (by decide)).trans (h.2.1 w hw), (zU_np (by decide)).trans h.2.2.1, fun i hi => (zU_nj (by omega)).trans (h.2.2.2.1 i hi), fun j hj => (Nat.lt_succ_iff_lt_or_eq.mp hj).elim (fun h2 => (zU_nj (by omega)).trans (h.2.2.2.2 j h2)) (fun e => by rw [e]; exact zU_eq)⟩
/-- a word was added -/
def MAd (Y Z : zY) (nw : Nat) (tx : Nat → Nat) (len : Nat) : Prop := (∀ q, q ≠ 116 → q ≠ 115 → q ≠ 114 → q ≠ 102 → Z q = Y q) ∧ (∀ k, k ≠ 25 → Z 102 k = Y 102 k) ∧ Z 102 25 = nI (nw + 1) ∧ (∀ w, w ≠ nw → Z 114 w = Y 114 w) ∧ Z 114 nw = nI len ∧ (∀ i, i < 12 * nw → Z 115 i = Y 115 i) ∧ ∀ j, j < len → Z 115 (12 * nw + j) = nI (tx j)
theorem MA2.fin {Y Z : zY} {nw : Nat} {tx : Nat → Nat} {len : Nat} (h : MA2 Y Z nw tx len len) : MAd Y (zU Z 102 25 (nI (nw + 1))) nw tx len := ⟨fun q a b c d => (zU_row d).trans (h.1 q a b c), fun k hk => (zU_nj hk).trans (congrFun (h.1 102 (by decide) (by decide) (by decide)) k), zU_eq, fun w hw => (zU_np (by decide)).trans (h.2.1 w hw), (zU_np (by decide)).trans h.2.2.1, fun i hi => (zU_np (by decide)).trans (h.2.2.2.1 i hi), fun j hj => (zU_np (by decide)).trans (h.2.2.2.2 j hj)⟩
set_option maxHeartbeats 4000000 in
set_option maxRecDepth 100000 in
theorem kX6_step (l : Launch) (G : zG) (A : Nat → Nat) (Y : zY) (x pp qq ex : Nat) (nw : Nat) (sz : Nat → Nat) (lt : Nat → Nat → Nat) (tx : Nat → Nat) (len : Nat) (D : Nat → Nat → Nat) (hMD : MD Y nw sz lt tx len) (hx : x < nw) (hp : pp ≤ sz x) (hq : qq ≤ len) (hex : ex ≤ 1) (hD : ∀ p' q', p' ≤ pp → q' ≤ qq → (p' < pp ∨ q' < qq) → Y 116 (25 * p' + q') = nI (D p' q') ∧ D p' q' ≤ 100) : ZI l yX6_step cX6_step 8 (.int) 0 0 G A Y [.ref (A 102), .int (nI x), .int (nI pp), .int (nI qq), .int (nI ex)] (fun r Y' => r = nI (d4 (lt x) tx ex D pp qq) ∧ Y' = Y) := by
  refine ZI.enter (by decide) (Nat.le_of_ble_eq_true rfl) ?_
  intro p e s m args below meth c R Q hxx hbb S hK hfr hlo hret H ls hP hS hl
  have hB : ∀ q, zAd A q → zAd A q := fun _ h => h
  have hl : lv_has ls 8 [(0, .ref (A 102)), (1, .int (nI x)), (2, .int (nI pp)), (3, .int (nI qq)), (4, .int (nI ex))] := hl
  have S : CallFix p m c cX6_step 8 s args wsL_law RX6 := S
  have hMD9 := hMD
  obtain ⟨hnw, hlen, hsz, htx, hY25, hY19, hYt, hYw⟩ := hMD
  have hKK : MKd Y Y := MKd.rf
  obtain ⟨hs1, hs2, hs3⟩ := hsz x hx
  have L_257 : ∀ (b : Nat) (hb : b = d4 (lt x) tx ex D pp qq) (hb2 : b ≤ 1000), ∀ (H : Heap) (locs : List Loc) (ls : Array Slot), va_P G.1 vwCl (zW G A Y) H → va_S (zAd A) s.heap H locs → lv_has ls 8 [(0, .ref (A 102)), (1, .int (nI x)), (2, .int (nI pp)), (3, .int (nI qq)), (4, .int (nI ex)), (5, .int (nI b)), (6, .int (nI (12 * x + pp) - nI 1))] → W p l e R s m args below meth c H locs 0 0 Q (F0 m 257 ls []) := by
    intro b hb hb2 H locs ls hP hS hl
    refine lv_iload hxx hbb dX6_step_257 (lv_at hl 5 rfl) ?_
    exact hret _ _ _ _ _ _ dX6_step_259 (rfl) hP hS (⟨by rw [hb], rfl⟩)
  have L_168 : ∀ (b : Nat) (hb : b = d3 (lt x) tx D pp qq) (hb2 : b ≤ 1000), ∀ (H : Heap) (locs : List Loc) (ls : Array Slot), va_P G.1 vwCl (zW G A Y) H → va_S (zAd A) s.heap H locs → lv_has ls 8 [(0, .ref (A 102)), (1, .int (nI x)), (2, .int (nI pp)), (3, .int (nI qq)), (4, .int (nI ex)), (5, .int (nI b)), (6, .int (nI (12 * x + pp) - nI 1))] → W p l e R s m args below meth c H locs 0 0 Q (F0 m 168 ls []) := by
    intro b hb hb2 H locs ls hP hS hl
    refine lv_iload hxx hbb dX6_step_168 (lv_at hl 4 rfl) ?_
    refine zif_eq (tgt := 257) S (by omega) dX6_step_170 (by decide) (fun c_1 => ?_) (fun c_1 => ?_)
    · skip
      exact L_257 b (by simp only [d4, ← hb]; (repeat (first | rw [if_pos (by omega)] | rw [if_neg (by omega)]))) (by omega) _ _ _ hP hS (lv_sub hl [0, 1, 2, 3, 4, 5, 6] rfl)
    · skip
      refine lv_iload_n hxx hbb dX6_step_173 rfl (lv_at hl 2 rfl) ?_
      refine lv_iconst (v := nI 1) hxx hbb dX6_step_174 (by decide) ?_
      refine zcmp_le (tgt := 257) S (by omega) (by omega) dX6_step_175 (by decide) (fun c_2 => ?_) (fun c_2 => ?_)
      · skip
        exact L_257 b (by simp only [d4, ← hb]; (repeat (first | rw [if_pos (by omega)] | rw [if_neg (by omega)]))) (by omega) _ _ _ hP hS (lv_sub hl [0, 1, 2, 3, 4, 5, 6] rfl)
      · skip
        refine lv_iload_n hxx hbb dX6_step_178 rfl (lv_at hl 3 rfl) ?_
        refine lv_iconst (v := nI 1) hxx hbb dX6_step_179 (by decide) ?_
        refine zcmp_le (tgt := 257) S (by omega) (by omega) dX6_step_180 (by decide) (fun c_3 => ?_) (fun c_3 => ?_)
        · skip
          exact L_257 b (by simp only [d4, ← hb]; (repeat (first | rw [if_pos (by omega)] | rw [if_neg (by omega)]))) (by omega) _ _ _ hP hS (lv_sub hl [0, 1, 2, 3, 4, 5, 6] rfl)
        · skip
          have hl9 := hs3 (pp - 1) (by omega)
          have ht9 := htx (qq - 2) (by omega)
          have hl8 := hs3 (pp - 2) (by omega)
          have ht8 := htx (qq - 1) (by omega)
          refine lv_aload_n hxx hbb dX6_step_183 rfl (lv_at hl 0 rfl) ?_
          refine zgX6_62 S hK hP 102 (by decide) zk_102 dX6_step_184 ?_
          refine lv_iload hxx hbb dX6_step_187 (lv_at hl 6 rfl) ?_
          rw [show (nI (12 * x + pp) - nI 1 : Int32) = nI (12 * x + pp - 1) from pk_sub (by omega)]
          refine zaldN S hK hP 115 240 (by decide) zk_115 zl_115 (by omega) (v := nI (lt x (pp - 1))) ((congrArg (Y 115) (show 12 * x + pp - 1 = 12 * x + (pp - 1) by omega)).trans ((hYw x hx).2 _ (by omega))) dX6_step_189 ?_
          refine lv_aload_n hxx hbb dX6_step_190 rfl (lv_at hl 0 rfl) ?_
          refine zgX6_47 S hK hP 102 (by decide) zk_102 dX6_step_191 ?_
          refine lv_iload_n hxx hbb dX6_step_194 rfl (lv_at hl 3 rfl) ?_
          refine lv_iconst (v := nI 2) hxx hbb dX6_step_195 (by decide) ?_
          refine zsubN S (by omega) dX6_step_196 ?_
          refine zaldN S hK hP 112 24 (by decide) zk_112 zl_112 (by omega) (v := nI (tx (qq - 2))) ((hYt _ (by omega))) dX6_step_197 ?_
          refine zcmp_ne (tgt := 257) S (by omega) (by omega) dX6_step_198 (by decide) (fun c_4 => ?_) (fun c_4 => ?_)
          · skip
            exact L_257 b (by simp only [d4, ← hb]; (repeat (first | rw [if_pos (by omega)] | rw [if_neg (by omega)]))) (by omega) _ _ _ hP hS (lv_sub hl [0, 1, 2, 3, 4, 5, 6] rfl)
          · skip
            refine lv_aload_n hxx hbb dX6_step_201 rfl (lv_at hl 0 rfl) ?_
            refine zgX6_62 S hK hP 102 (by decide) zk_102 dX6_step_202 ?_
            refine lv_iload hxx hbb dX6_step_205 (lv_at hl 6 rfl) ?_
            rw [show (nI (12 * x + pp) - nI 1 : Int32) = nI (12 * x + pp - 1) from pk_sub (by omega)]
            refine lv_iconst (v := nI 1) hxx hbb dX6_step_207 (by decide) ?_
            refine zsubN S (by omega) dX6_step_208 ?_
            refine zaldN S hK hP 115 240 (by decide) zk_115 zl_115 (by omega) (v := nI (lt x (pp - 2))) ((congrArg (Y 115) (show 12 * x + pp - 1 - 1 = 12 * x + (pp - 2) by omega)).trans ((hYw x hx).2 _ (by omega))) dX6_step_209 ?_
            refine lv_aload_n hxx hbb dX6_step_210 rfl (lv_at hl 0 rfl) ?_
            refine zgX6_47 S hK hP 102 (by decide) zk_102 dX6_step_211 ?_
            refine lv_iload_n hxx hbb dX6_step_214 rfl (lv_at hl 3 rfl) ?_
            refine lv_iconst (v := nI 1) hxx hbb dX6_step_215 (by decide) ?_
            refine zsubN S (by omega) dX6_step_216 ?_
            refine zaldN S hK hP 112 24 (by decide) zk_112 zl_112 (by omega) (v := nI (tx (qq - 1))) ((hYt _ (by omega))) dX6_step_217 ?_
            refine zcmp_ne (tgt := 257) S (by omega) (by omega) dX6_step_218 (by decide) (fun c_5 => ?_) (fun c_5 => ?_)
            · skip
              exact L_257 b (by simp only [d4, ← hb]; (repeat (first | rw [if_pos (by omega)] | rw [if_neg (by omega)]))) (by omega) _ _ _ hP hS (lv_sub hl [0, 1, 2, 3, 4, 5, 6] rfl)
            · skip
              refine lv_aload_n hxx hbb dX6_step_221 rfl (lv_at hl 0 rfl) ?_
              refine zgX6_65 S hK hP 102 (by decide) zk_102 dX6_step_222 ?_
              refine lv_bipush (v := nI 25) hxx hbb dX6_step_225 (by decide) ?_
              refine lv_iload_n hxx hbb dX6_step_227 rfl (lv_at hl 2 rfl) ?_
              refine zmulN S dX6_step_228 ?_
              refine lv_bipush (v := nI 50) hxx hbb dX6_step_229 (by decide) ?_
              refine zsubN S (by omega) dX6_step_231 ?_
              refine lv_iload_n hxx hbb dX6_step_232 rfl (lv_at hl 3 rfl) ?_
              refine zaddN S dX6_step_233 ?_
              refine lv_iconst (v := nI 2) hxx hbb dX6_step_234 (by decide) ?_
              refine zsubN S (by omega) dX6_step_235 ?_
              have hd9 := (hD (pp - 2) (qq - 2) (by omega) (by omega) (by omega)).2
              refine zaldN S hK hP 116 325 (by decide) zk_116 zl_116 (by omega) (v := nI (D (pp - 2) (qq - 2))) ((congrArg (Y 116) (show 25 * pp - 50 + qq - 2 = 25 * (pp - 2) + (qq - 2) by omega)).trans (hD (pp - 2) (qq - 2) (by omega) (by omega) (by omega)).1) dX6_step_236 ?_
              refine lv_iconst (v := nI 1) hxx hbb dX6_step_237 (by decide) ?_
              refine zaddN S dX6_step_238 ?_
              refine lv_istore (lv' := [(7, .int (nI (D (pp - 2) (qq - 2) + 1))), (0, .ref (A 102)), (1, .int (nI x)), (2, .int (nI pp)), (3, .int (nI qq)), (4, .int (nI ex)), (5, .int (nI b)), (6, .int (nI (12 * x + pp) - nI 1))]) hxx hbb dX6_step_239 hl (by decide) rfl (fun ls hl => ?_)
              refine lv_iload hxx hbb dX6_step_241 (lv_at hl 0 rfl) ?_
              refine lv_iload hxx hbb dX6_step_243 (lv_at hl 6 rfl) ?_
              refine zcmp_ge (tgt := 253) S (by omega) (by omega) dX6_step_245 (by decide) (fun c_6 => ?_) (fun c_6 => ?_)
              · skip
                refine lv_iload hxx hbb dX6_step_253 (lv_at hl 6 rfl) ?_
                refine lv_istore (lv' := [(5, .int (nI b)), (7, .int (nI (D (pp - 2) (qq - 2) + 1))), (0, .ref (A 102)), (1, .int (nI x)), (2, .int (nI pp)), (3, .int (nI qq)), (4, .int (nI ex)), (6, .int (nI (12 * x + pp) - nI 1))]) hxx hbb dX6_step_255 hl (by decide) rfl (fun ls hl => ?_)
                exact L_257 b (by simp only [d4, ← hb]; (repeat (first | rw [if_pos (by omega)] | rw [if_neg (by omega)]))) (by omega) _ _ _ hP hS (lv_sub hl [2, 3, 4, 5, 6, 0, 7] rfl)
              · skip
                refine lv_iload hxx hbb dX6_step_248 (lv_at hl 0 rfl) ?_
                refine lv_goto (tgt := 255) hxx hbb dX6_step_250 (by decide) ?_
                refine lv_istore (lv' := [(5, .int (nI (D (pp - 2) (qq - 2) + 1))), (7, .int (nI (D (pp - 2) (qq - 2) + 1))), (0, .ref (A 102)), (1, .int (nI x)), (2, .int (nI pp)), (3, .int (nI qq)), (4, .int (nI ex)), (6, .int (nI (12 * x + pp) - nI 1))]) hxx hbb dX6_step_255 hl (by decide) rfl (fun ls hl => ?_)
                exact L_257 (D (pp - 2) (qq - 2) + 1) (by simp only [d4, ← hb]; (repeat (first | rw [if_pos (by omega)] | rw [if_neg (by omega)]))) (by omega) _ _ _ hP hS (lv_sub hl [2, 3, 4, 5, 6, 0, 7] rfl)
  have L_102 : ∀ (b : Nat) (hb : b = d2 D pp qq) (hb2 : b ≤ 1000), ∀ (H : Heap) (locs : List Loc) (ls : Array Slot), va_P G.1 vwCl (zW G A Y) H → va_S (zAd A) s.heap H locs → lv_has ls 8 [(0, .ref (A 102)), (1, .int (nI x)), (2, .int (nI pp)), (3, .int (nI qq)), (4, .int (nI ex)), (5, .int (nI b)), (6, .int (nI (12 * x + pp) - nI 1))] → W p l e R s m args below meth c H locs 0 0 Q (F0 m 102 ls []) := by
    intro b hb hb2 H locs ls hP hS hl
    refine lv_iload_n hxx hbb dX6_step_102 rfl (lv_at hl 2 rfl) ?_
    refine zif_le (tgt := 168) S (by omega) dX6_step_103 (by decide) (fun c_7 => ?_) (fun c_7 => ?_)
    · skip
      exact L_168 b (by simp only [d3, ← hb]; (repeat (first | rw [if_pos (by omega)] | rw [if_neg (by omega)]))) (by omega) _ _ _ hP hS (lv_sub hl [0, 1, 2, 3, 4, 5, 6] rfl)
    · skip
      refine lv_iload_n hxx hbb dX6_step_106 rfl (lv_at hl 3 rfl) ?_
      refine zif_le (tgt := 168) S (by omega) dX6_step_107 (by decide) (fun c_8 => ?_) (fun c_8 => ?_)
      · skip
        exact L_168 b (by simp only [d3, ← hb]; (repeat (first | rw [if_pos (by omega)] | rw [if_neg (by omega)]))) (by omega) _ _ _ hP hS (lv_sub hl [0, 1, 2, 3, 4, 5, 6] rfl)
      · skip
        refine lv_aload_n hxx hbb dX6_step_110 rfl (lv_at hl 0 rfl) ?_
        refine zgX6_65 S hK hP 102 (by decide) zk_102 dX6_step_111 ?_
        refine lv_bipush (v := nI 25) hxx hbb dX6_step_114 (by decide) ?_
        refine lv_iload_n hxx hbb dX6_step_116 rfl (lv_at hl 2 rfl) ?_
        refine zmulN S dX6_step_117 ?_
        refine lv_bipush (v := nI 25) hxx hbb dX6_step_118 (by decide) ?_
        refine zsubN S (by omega) dX6_step_120 ?_
        refine lv_iload_n hxx hbb dX6_step_121 rfl (lv_at hl 3 rfl) ?_
        refine zaddN S dX6_step_122 ?_
        refine lv_iconst (v := nI 1) hxx hbb dX6_step_123 (by decide) ?_
        refine zsubN S (by omega) dX6_step_124 ?_
        have hd9 := (hD (pp - 1) (qq - 1) (by omega) (by omega) (by omega)).2
        have hl9 := hs3 (pp - 1) (by omega)
        have ht9 := htx (qq - 1) (by omega)
        refine zaldN S hK hP 116 325 (by decide) zk_116 zl_116 (by omega) (v := nI (D (pp - 1) (qq - 1))) ((congrArg (Y 116) (show 25 * pp - 25 + qq - 1 = 25 * (pp - 1) + (qq - 1) by omega)).trans (hD (pp - 1) (qq - 1) (by omega) (by omega) (by omega)).1) dX6_step_125 ?_
        refine lv_aload_n hxx hbb dX6_step_126 rfl (lv_at hl 0 rfl) ?_
        refine zgX6_62 S hK hP 102 (by decide) zk_102 dX6_step_127 ?_
        refine lv_iload hxx hbb dX6_step_130 (lv_at hl 6 rfl) ?_
        rw [show (nI (12 * x + pp) - nI 1 : Int32) = nI (12 * x + pp - 1) from pk_sub (by omega)]
        refine zaldN S hK hP 115 240 (by decide) zk_115 zl_115 (by omega) (v := nI (lt x (pp - 1))) ((congrArg (Y 115) (show 12 * x + pp - 1 = 12 * x + (pp - 1) by omega)).trans ((hYw x hx).2 _ (by omega))) dX6_step_132 ?_
        refine lv_aload_n hxx hbb dX6_step_133 rfl (lv_at hl 0 rfl) ?_
        refine zgX6_47 S hK hP 102 (by decide) zk_102 dX6_step_134 ?_
        refine lv_iload_n hxx hbb dX6_step_137 rfl (lv_at hl 3 rfl) ?_
        refine lv_iconst (v := nI 1) hxx hbb dX6_step_138 (by decide) ?_
        refine zsubN S (by omega) dX6_step_139 ?_
        refine zaldN S hK hP 112 24 (by decide) zk_112 zl_112 (by omega) (v := nI (tx (qq - 1))) ((hYt _ (by omega))) dX6_step_140 ?_
        refine zcmp_ne (tgt := 148) S (by omega) (by omega) dX6_step_141 (by decide) (fun c_9 => ?_) (fun c_9 => ?_)
        · skip
          refine lv_iconst (v := nI 1) hxx hbb dX6_step_148 (by decide) ?_
          have hdE : dE (lt x) tx pp qq = 1 := by simp only [dE]; first | rw [if_pos (by omega)] | rw [if_neg (by omega)]
          refine zaddN S dX6_step_149 ?_
          refine lv_istore (lv' := [(7, .int (nI (D (pp - 1) (qq - 1) + 1))), (0, .ref (A 102)), (1, .int (nI x)), (2, .int (nI pp)), (3, .int (nI qq)), (4, .int (nI ex)), (5, .int (nI b)), (6, .int (nI (12 * x + pp) - nI 1))]) hxx hbb dX6_step_150 hl (by decide) rfl (fun ls hl => ?_)
          refine lv_iload hxx hbb dX6_step_152 (lv_at hl 0 rfl) ?_
          refine lv_iload hxx hbb dX6_step_154 (lv_at hl 6 rfl) ?_
          refine zcmp_ge (tgt := 164) S (by omega) (by omega) dX6_step_156 (by decide) (fun c_10 => ?_) (fun c_10 => ?_)
          · skip
            refine lv_iload hxx hbb dX6_step_164 (lv_at hl 6 rfl) ?_
            refine lv_istore (lv' := [(5, .int (nI b)), (7, .int (nI (D (pp - 1) (qq - 1) + 1))), (0, .ref (A 102)), (1, .int (nI x)), (2, .int (nI pp)), (3, .int (nI qq)), (4, .int (nI ex)), (6, .int (nI (12 * x + pp) - nI 1))]) hxx hbb dX6_step_166 hl (by decide) rfl (fun ls hl => ?_)
            exact L_168 b (by simp only [d3, hdE, ← hb]; (repeat (first | rw [if_pos (by omega)] | rw [if_neg (by omega)]))) (by omega) _ _ _ hP hS (lv_sub hl [2, 3, 4, 5, 6, 0, 7] rfl)
          · skip
            refine lv_iload hxx hbb dX6_step_159 (lv_at hl 0 rfl) ?_
            refine lv_goto (tgt := 166) hxx hbb dX6_step_161 (by decide) ?_
            refine lv_istore (lv' := [(5, .int (nI (D (pp - 1) (qq - 1) + 1))), (7, .int (nI (D (pp - 1) (qq - 1) + 1))), (0, .ref (A 102)), (1, .int (nI x)), (2, .int (nI pp)), (3, .int (nI qq)), (4, .int (nI ex)), (6, .int (nI (12 * x + pp) - nI 1))]) hxx hbb dX6_step_166 hl (by decide) rfl (fun ls hl => ?_)
            exact L_168 (D (pp - 1) (qq - 1) + 1) (by simp only [d3, hdE, ← hb]; (repeat (first | rw [if_pos (by omega)] | rw [if_neg (by omega)]))) (by omega) _ _ _ hP hS (lv_sub hl [2, 3, 4, 5, 6, 0, 7] rfl)
        · skip
          refine lv_iconst (v := nI 0) hxx hbb dX6_step_144 (by decide) ?_
          refine lv_goto (tgt := 149) hxx hbb dX6_step_145 (by decide) ?_
          have hdE : dE (lt x) tx pp qq = 0 := by simp only [dE]; first | rw [if_pos (by omega)] | rw [if_neg (by omega)]
          refine zaddN S dX6_step_149 ?_
          refine lv_istore (lv' := [(7, .int (nI (D (pp - 1) (qq - 1) + 0))), (0, .ref (A 102)), (1, .int (nI x)), (2, .int (nI pp)), (3, .int (nI qq)), (4, .int (nI ex)), (5, .int (nI b)), (6, .int (nI (12 * x + pp) - nI 1))]) hxx hbb dX6_step_150 hl (by decide) rfl (fun ls hl => ?_)
          refine lv_iload hxx hbb dX6_step_152 (lv_at hl 0 rfl) ?_
          refine lv_iload hxx hbb dX6_step_154 (lv_at hl 6 rfl) ?_
          refine zcmp_ge (tgt := 164) S (by omega) (by omega) dX6_step_156 (by decide) (fun c_11 => ?_) (fun c_11 => ?_)
          · skip
            refine lv_iload hxx hbb dX6_step_164 (lv_at hl 6 rfl) ?_
            refine lv_istore (lv' := [(5, .int (nI b)), (7, .int (nI (D (pp - 1) (qq - 1) + 0))), (0, .ref (A 102)), (1, .int (nI x)), (2, .int (nI pp)), (3, .int (nI qq)), (4, .int (nI ex)), (6, .int (nI (12 * x + pp) - nI 1))]) hxx hbb dX6_step_166 hl (by decide) rfl (fun ls hl => ?_)
            exact L_168 b (by simp only [d3, hdE, ← hb]; (repeat (first | rw [if_pos (by omega)] | rw [if_neg (by omega)]))) (by omega) _ _ _ hP hS (lv_sub hl [2, 3, 4, 5, 6, 0, 7] rfl)
          · skip
            refine lv_iload hxx hbb dX6_step_159 (lv_at hl 0 rfl) ?_
            refine lv_goto (tgt := 166) hxx hbb dX6_step_161 (by decide) ?_
            refine lv_istore (lv' := [(5, .int (nI (D (pp - 1) (qq - 1) + 0))), (7, .int (nI (D (pp - 1) (qq - 1) + 0))), (0, .ref (A 102)), (1, .int (nI x)), (2, .int (nI pp)), (3, .int (nI qq)), (4, .int (nI ex)), (6, .int (nI (12 * x + pp) - nI 1))]) hxx hbb dX6_step_166 hl (by decide) rfl (fun ls hl => ?_)
            exact L_168 (D (pp - 1) (qq - 1) + 0) (by simp only [d3, hdE, ← hb]; (repeat (first | rw [if_pos (by omega)] | rw [if_neg (by omega)]))) (by omega) _ _ _ hP hS (lv_sub hl [2, 3, 4, 5, 6, 0, 7] rfl)
  have L_65 : ∀ (b : Nat) (hb : b = d1 D pp qq) (hb2 : b ≤ 1000), ∀ (H : Heap) (locs : List Loc) (ls : Array Slot), va_P G.1 vwCl (zW G A Y) H → va_S (zAd A) s.heap H locs → lv_has ls 8 [(0, .ref (A 102)), (1, .int (nI x)), (2, .int (nI pp)), (3, .int (nI qq)), (4, .int (nI ex)), (5, .int (nI b)), (6, .int (nI (12 * x + pp) - nI 1))] → W p l e R s m args below meth c H locs 0 0 Q (F0 m 65 ls []) := by
    intro b hb hb2 H locs ls hP hS hl
    refine lv_iload_n hxx hbb dX6_step_65 rfl (lv_at hl 3 rfl) ?_
    refine zif_le (tgt := 102) S (by omega) dX6_step_66 (by decide) (fun c_12 => ?_) (fun c_12 => ?_)
    · skip
      exact L_102 b (by simp only [d2, ← hb]; (repeat (first | rw [if_pos (by omega)] | rw [if_neg (by omega)]))) (by omega) _ _ _ hP hS (lv_sub hl [0, 1, 2, 3, 4, 5, 6] rfl)
    · skip
      refine lv_aload_n hxx hbb dX6_step_69 rfl (lv_at hl 0 rfl) ?_
      refine zgX6_65 S hK hP 102 (by decide) zk_102 dX6_step_70 ?_
      refine lv_bipush (v := nI 25) hxx hbb dX6_step_73 (by decide) ?_
      refine lv_iload_n hxx hbb dX6_step_75 rfl (lv_at hl 2 rfl) ?_
      refine zmulN S dX6_step_76 ?_
      refine lv_iload_n hxx hbb dX6_step_77 rfl (lv_at hl 3 rfl) ?_
      refine zaddN S dX6_step_78 ?_
      refine lv_iconst (v := nI 1) hxx hbb dX6_step_79 (by decide) ?_
      refine zsubN S (by omega) dX6_step_80 ?_
      have hd9 := (hD pp (qq - 1) (by omega) (by omega) (by omega)).2
      refine zaldN S hK hP 116 325 (by decide) zk_116 zl_116 (by omega) (v := nI (D pp (qq - 1))) ((congrArg (Y 116) (show 25 * pp + qq - 1 = 25 * pp + (qq - 1) by omega)).trans (hD pp (qq - 1) (by omega) (by omega) (by omega)).1) dX6_step_81 ?_
      refine lv_iconst (v := nI 1) hxx hbb dX6_step_82 (by decide) ?_
      refine zaddN S dX6_step_83 ?_
      refine lv_istore (lv' := [(7, .int (nI (D pp (qq - 1) + 1))), (0, .ref (A 102)), (1, .int (nI x)), (2, .int (nI pp)), (3, .int (nI qq)), (4, .int (nI ex)), (5, .int (nI b)), (6, .int (nI (12 * x + pp) - nI 1))]) hxx hbb dX6_step_84 hl (by decide) rfl (fun ls hl => ?_)
      refine lv_iload hxx hbb dX6_step_86 (lv_at hl 0 rfl) ?_
      refine lv_iload hxx hbb dX6_step_88 (lv_at hl 6 rfl) ?_
      refine zcmp_ge (tgt := 98) S (by omega) (by omega) dX6_step_90 (by decide) (fun c_13 => ?_) (fun c_13 => ?_)
      · skip
        refine lv_iload hxx hbb dX6_step_98 (lv_at hl 6 rfl) ?_
        refine lv_istore (lv' := [(5, .int (nI b)), (7, .int (nI (D pp (qq - 1) + 1))), (0, .ref (A 102)), (1, .int (nI x)), (2, .int (nI pp)), (3, .int (nI qq)), (4, .int (nI ex)), (6, .int (nI (12 * x + pp) - nI 1))]) hxx hbb dX6_step_100 hl (by decide) rfl (fun ls hl => ?_)
        exact L_102 b (by simp only [d2, ← hb]; (repeat (first | rw [if_pos (by omega)] | rw [if_neg (by omega)]))) (by omega) _ _ _ hP hS (lv_sub hl [2, 3, 4, 5, 6, 0, 7] rfl)
      · skip
        refine lv_iload hxx hbb dX6_step_93 (lv_at hl 0 rfl) ?_
        refine lv_goto (tgt := 100) hxx hbb dX6_step_95 (by decide) ?_
        refine lv_istore (lv' := [(5, .int (nI (D pp (qq - 1) + 1))), (7, .int (nI (D pp (qq - 1) + 1))), (0, .ref (A 102)), (1, .int (nI x)), (2, .int (nI pp)), (3, .int (nI qq)), (4, .int (nI ex)), (6, .int (nI (12 * x + pp) - nI 1))]) hxx hbb dX6_step_100 hl (by decide) rfl (fun ls hl => ?_)
        exact L_102 (D pp (qq - 1) + 1) (by simp only [d2, ← hb]; (repeat (first | rw [if_pos (by omega)] | rw [if_neg (by omega)]))) (by omega) _ _ _ hP hS (lv_sub hl [2, 3, 4, 5, 6, 0, 7] rfl)
  refine lv_iload_n hxx hbb dX6_step_0 rfl (lv_at hl 2 rfl) ?_
  refine zif_ne (tgt := 12) S (by omega) dX6_step_1 (by decide) (fun c_14 => ?_) (fun c_14 => ?_)
  · skip
    refine lv_sipush (v := nI 1000) hxx hbb dX6_step_12 (by decide) ?_
    have hd0 : d0 pp qq = 1000 := by simp only [d0]; first | rw [if_pos (by omega)] | rw [if_neg (by omega)]
    refine lv_istore (lv' := [(5, .int (nI 1000)), (0, .ref (A 102)), (1, .int (nI x)), (2, .int (nI pp)), (3, .int (nI qq)), (4, .int (nI ex))]) hxx hbb dX6_step_15 hl (by decide) rfl (fun ls hl => ?_)
    refine lv_bipush (v := nI 12) hxx hbb dX6_step_17 (by decide) ?_
    refine lv_iload_n hxx hbb dX6_step_19 rfl (lv_at hl 2 rfl) ?_
    refine zmulN S dX6_step_20 ?_
    refine lv_iload_n hxx hbb dX6_step_21 rfl (lv_at hl 3 rfl) ?_
    refine zaddN S dX6_step_22 ?_
    refine lv_iconst (v := nI 1) hxx hbb dX6_step_23 (by decide) ?_
    refine lv_isub hxx hbb dX6_step_24 ?_
    refine lv_istore (lv' := [(6, .int ((nI (12 * x + pp)) - (nI 1))), (5, .int (nI 1000)), (0, .ref (A 102)), (1, .int (nI x)), (2, .int (nI pp)), (3, .int (nI qq)), (4, .int (nI ex))]) hxx hbb dX6_step_25 hl (by decide) rfl (fun ls hl => ?_)
    refine lv_iload_n hxx hbb dX6_step_27 rfl (lv_at hl 4 rfl) ?_
    refine zif_le (tgt := 65) S (by omega) dX6_step_28 (by decide) (fun c_15 => ?_) (fun c_15 => ?_)
    · skip
      exact L_65 1000 (by first | (exfalso; omega) | (simp only [d1, hd0]; (repeat (first | rw [if_pos (by omega)] | rw [if_neg (by omega)])))) (by omega) _ _ _ hP hS (lv_sub hl [2, 3, 4, 5, 6, 1, 0] rfl)
    · skip
      refine lv_aload_n hxx hbb dX6_step_31 rfl (lv_at hl 2 rfl) ?_
      refine zgX6_65 S hK hP 102 (by decide) zk_102 dX6_step_32 ?_
      refine lv_bipush (v := nI 25) hxx hbb dX6_step_35 (by decide) ?_
      refine lv_iload_n hxx hbb dX6_step_37 rfl (lv_at hl 4 rfl) ?_
      refine zmulN S dX6_step_38 ?_
      refine lv_bipush (v := nI 25) hxx hbb dX6_step_39 (by decide) ?_
      refine zsubN S (by omega) dX6_step_41 ?_
      refine lv_iload_n hxx hbb dX6_step_42 rfl (lv_at hl 5 rfl) ?_
      refine zaddN S dX6_step_43 ?_
      have hd9 := (hD (pp - 1) qq (by omega) (by omega) (by omega)).2
      refine zaldN S hK hP 116 325 (by decide) zk_116 zl_116 (by omega) (v := nI (D (pp - 1) qq)) ((congrArg (Y 116) (show 25 * pp - 25 + qq = 25 * (pp - 1) + qq by omega)).trans (hD (pp - 1) qq (by omega) (by omega) (by omega)).1) dX6_step_44 ?_
      refine lv_iconst (v := nI 1) hxx hbb dX6_step_45 (by decide) ?_
      refine zaddN S dX6_step_46 ?_
      refine lv_istore (lv' := [(7, .int (nI (D (pp - 1) qq + 1))), (6, .int ((nI (12 * x + pp)) - (nI 1))), (5, .int (nI 1000)), (0, .ref (A 102)), (1, .int (nI x)), (2, .int (nI pp)), (3, .int (nI qq)), (4, .int (nI ex))]) hxx hbb dX6_step_47 hl (by decide) rfl (fun ls hl => ?_)
      refine lv_iload hxx hbb dX6_step_49 (lv_at hl 0 rfl) ?_
      refine lv_iload hxx hbb dX6_step_51 (lv_at hl 2 rfl) ?_
      refine zcmp_ge (tgt := 61) S (by omega) (by omega) dX6_step_53 (by decide) (fun c_16 => ?_) (fun c_16 => ?_)
      · skip
        refine lv_iload hxx hbb dX6_step_61 (lv_at hl 2 rfl) ?_
        refine lv_istore (lv' := [(5, .int (nI 1000)), (7, .int (nI (D (pp - 1) qq + 1))), (6, .int ((nI (12 * x + pp)) - (nI 1))), (0, .ref (A 102)), (1, .int (nI x)), (2, .int (nI pp)), (3, .int (nI qq)), (4, .int (nI ex))]) hxx hbb dX6_step_63 hl (by decide) rfl (fun ls hl => ?_)
        exact L_65 1000 (by first | (exfalso; omega) | (simp only [d1, hd0]; (repeat (first | rw [if_pos (by omega)] | rw [if_neg (by omega)])))) (by omega) _ _ _ hP hS (lv_sub hl [3, 4, 5, 6, 7, 0, 2] rfl)
      · skip
        refine lv_iload hxx hbb dX6_step_56 (lv_at hl 0 rfl) ?_
        refine lv_goto (tgt := 63) hxx hbb dX6_step_58 (by decide) ?_
        refine lv_istore (lv' := [(5, .int (nI (D (pp - 1) qq + 1))), (7, .int (nI (D (pp - 1) qq + 1))), (6, .int ((nI (12 * x + pp)) - (nI 1))), (0, .ref (A 102)), (1, .int (nI x)), (2, .int (nI pp)), (3, .int (nI qq)), (4, .int (nI ex))]) hxx hbb dX6_step_63 hl (by decide) rfl (fun ls hl => ?_)
        exact L_65 (D (pp - 1) qq + 1) (by first | (exfalso; omega) | (simp only [d1, hd0]; (repeat (first | rw [if_pos (by omega)] | rw [if_neg (by omega)])))) (by omega) _ _ _ hP hS (lv_sub hl [3, 4, 5, 6, 7, 0, 2] rfl)
  · skip
    refine lv_iload_n hxx hbb dX6_step_4 rfl (lv_at hl 3 rfl) ?_
    refine zif_ne (tgt := 12) S (by omega) dX6_step_5 (by decide) (fun c_17 => ?_) (fun c_17 => ?_)
    · skip
      refine lv_sipush (v := nI 1000) hxx hbb dX6_step_12 (by decide) ?_
      have hd0 : d0 pp qq = 1000 := by simp only [d0]; first | rw [if_pos (by omega)] | rw [if_neg (by omega)]
      refine lv_istore (lv' := [(5, .int (nI 1000)), (0, .ref (A 102)), (1, .int (nI x)), (2, .int (nI pp)), (3, .int (nI qq)), (4, .int (nI ex))]) hxx hbb dX6_step_15 hl (by decide) rfl (fun ls hl => ?_)
      refine lv_bipush (v := nI 12) hxx hbb dX6_step_17 (by decide) ?_
      refine lv_iload_n hxx hbb dX6_step_19 rfl (lv_at hl 2 rfl) ?_
      refine zmulN S dX6_step_20 ?_
      refine lv_iload_n hxx hbb dX6_step_21 rfl (lv_at hl 3 rfl) ?_
      refine zaddN S dX6_step_22 ?_
      refine lv_iconst (v := nI 1) hxx hbb dX6_step_23 (by decide) ?_
      refine lv_isub hxx hbb dX6_step_24 ?_
      refine lv_istore (lv' := [(6, .int ((nI (12 * x + pp)) - (nI 1))), (5, .int (nI 1000)), (0, .ref (A 102)), (1, .int (nI x)), (2, .int (nI pp)), (3, .int (nI qq)), (4, .int (nI ex))]) hxx hbb dX6_step_25 hl (by decide) rfl (fun ls hl => ?_)
      refine lv_iload_n hxx hbb dX6_step_27 rfl (lv_at hl 4 rfl) ?_
      refine zif_le (tgt := 65) S (by omega) dX6_step_28 (by decide) (fun c_18 => ?_) (fun c_18 => ?_)
      · skip
        exact L_65 1000 (by first | (exfalso; omega) | (simp only [d1, hd0]; (repeat (first | rw [if_pos (by omega)] | rw [if_neg (by omega)])))) (by omega) _ _ _ hP hS (lv_sub hl [2, 3, 4, 5, 6, 1, 0] rfl)
      · skip
        refine lv_aload_n hxx hbb dX6_step_31 rfl (lv_at hl 2 rfl) ?_
        refine zgX6_65 S hK hP 102 (by decide) zk_102 dX6_step_32 ?_
        refine lv_bipush (v := nI 25) hxx hbb dX6_step_35 (by decide) ?_
        refine lv_iload_n hxx hbb dX6_step_37 rfl (lv_at hl 4 rfl) ?_
        refine zmulN S dX6_step_38 ?_
        refine lv_bipush (v := nI 25) hxx hbb dX6_step_39 (by decide) ?_
        refine zsubN S (by omega) dX6_step_41 ?_
        refine lv_iload_n hxx hbb dX6_step_42 rfl (lv_at hl 5 rfl) ?_
        refine zaddN S dX6_step_43 ?_
        have hd9 := (hD (pp - 1) qq (by omega) (by omega) (by omega)).2
        refine zaldN S hK hP 116 325 (by decide) zk_116 zl_116 (by omega) (v := nI (D (pp - 1) qq)) ((congrArg (Y 116) (show 25 * pp - 25 + qq = 25 * (pp - 1) + qq by omega)).trans (hD (pp - 1) qq (by omega) (by omega) (by omega)).1) dX6_step_44 ?_
        refine lv_iconst (v := nI 1) hxx hbb dX6_step_45 (by decide) ?_
        refine zaddN S dX6_step_46 ?_
        refine lv_istore (lv' := [(7, .int (nI (D (pp - 1) qq + 1))), (6, .int ((nI (12 * x + pp)) - (nI 1))), (5, .int (nI 1000)), (0, .ref (A 102)), (1, .int (nI x)), (2, .int (nI pp)), (3, .int (nI qq)), (4, .int (nI ex))]) hxx hbb dX6_step_47 hl (by decide) rfl (fun ls hl => ?_)
        refine lv_iload hxx hbb dX6_step_49 (lv_at hl 0 rfl) ?_
        refine lv_iload hxx hbb dX6_step_51 (lv_at hl 2 rfl) ?_
        refine zcmp_ge (tgt := 61) S (by omega) (by omega) dX6_step_53 (by decide) (fun c_19 => ?_) (fun c_19 => ?_)
        · skip
          refine lv_iload hxx hbb dX6_step_61 (lv_at hl 2 rfl) ?_
          refine lv_istore (lv' := [(5, .int (nI 1000)), (7, .int (nI (D (pp - 1) qq + 1))), (6, .int ((nI (12 * x + pp)) - (nI 1))), (0, .ref (A 102)), (1, .int (nI x)), (2, .int (nI pp)), (3, .int (nI qq)), (4, .int (nI ex))]) hxx hbb dX6_step_63 hl (by decide) rfl (fun ls hl => ?_)
          exact L_65 1000 (by first | (exfalso; omega) | (simp only [d1, hd0]; (repeat (first | rw [if_pos (by omega)] | rw [if_neg (by omega)])))) (by omega) _ _ _ hP hS (lv_sub hl [3, 4, 5, 6, 7, 0, 2] rfl)
        · skip
          refine lv_iload hxx hbb dX6_step_56 (lv_at hl 0 rfl) ?_
          refine lv_goto (tgt := 63) hxx hbb dX6_step_58 (by decide) ?_
          refine lv_istore (lv' := [(5, .int (nI (D (pp - 1) qq + 1))), (7, .int (nI (D (pp - 1) qq + 1))), (6, .int ((nI (12 * x + pp)) - (nI 1))), (0, .ref (A 102)), (1, .int (nI x)), (2, .int (nI pp)), (3, .int (nI qq)), (4, .int (nI ex))]) hxx hbb dX6_step_63 hl (by decide) rfl (fun ls hl => ?_)
          exact L_65 (D (pp - 1) qq + 1) (by first | (exfalso; omega) | (simp only [d1, hd0]; (repeat (first | rw [if_pos (by omega)] | rw [if_neg (by omega)])))) (by omega) _ _ _ hP hS (lv_sub hl [3, 4, 5, 6, 7, 0, 2] rfl)
    · skip
      refine lv_iconst (v := nI 0) hxx hbb dX6_step_8 (by decide) ?_
      refine lv_goto (tgt := 15) hxx hbb dX6_step_9 (by decide) ?_
      have hd0 : d0 pp qq = 0 := by simp only [d0]; first | rw [if_pos (by omega)] | rw [if_neg (by omega)]
      refine lv_istore (lv' := [(5, .int (nI 0)), (0, .ref (A 102)), (1, .int (nI x)), (2, .int (nI pp)), (3, .int (nI qq)), (4, .int (nI ex))]) hxx hbb dX6_step_15 hl (by decide) rfl (fun ls hl => ?_)
      refine lv_bipush (v := nI 12) hxx hbb dX6_step_17 (by decide) ?_
      refine lv_iload_n hxx hbb dX6_step_19 rfl (lv_at hl 2 rfl) ?_
      refine zmulN S dX6_step_20 ?_
      refine lv_iload_n hxx hbb dX6_step_21 rfl (lv_at hl 3 rfl) ?_
      refine zaddN S dX6_step_22 ?_
      refine lv_iconst (v := nI 1) hxx hbb dX6_step_23 (by decide) ?_
      refine lv_isub hxx hbb dX6_step_24 ?_
      refine lv_istore (lv' := [(6, .int ((nI (12 * x + pp)) - (nI 1))), (5, .int (nI 0)), (0, .ref (A 102)), (1, .int (nI x)), (2, .int (nI pp)), (3, .int (nI qq)), (4, .int (nI ex))]) hxx hbb dX6_step_25 hl (by decide) rfl (fun ls hl => ?_)
      refine lv_iload_n hxx hbb dX6_step_27 rfl (lv_at hl 4 rfl) ?_
      refine zif_le (tgt := 65) S (by omega) dX6_step_28 (by decide) (fun c_20 => ?_) (fun c_20 => ?_)
      · skip
        exact L_65 0 (by first | (exfalso; omega) | (simp only [d1, hd0]; (repeat (first | rw [if_pos (by omega)] | rw [if_neg (by omega)])))) (by omega) _ _ _ hP hS (lv_sub hl [2, 3, 4, 5, 6, 1, 0] rfl)
      · skip
        refine lv_aload_n hxx hbb dX6_step_31 rfl (lv_at hl 2 rfl) ?_
        refine zgX6_65 S hK hP 102 (by decide) zk_102 dX6_step_32 ?_
        refine lv_bipush (v := nI 25) hxx hbb dX6_step_35 (by decide) ?_
        refine lv_iload_n hxx hbb dX6_step_37 rfl (lv_at hl 4 rfl) ?_
        refine zmulN S dX6_step_38 ?_
        refine lv_bipush (v := nI 25) hxx hbb dX6_step_39 (by decide) ?_
        refine zsubN S (by omega) dX6_step_41 ?_
        refine lv_iload_n hxx hbb dX6_step_42 rfl (lv_at hl 5 rfl) ?_
        refine zaddN S dX6_step_43 ?_
        have hd9 := (hD (pp - 1) qq (by omega) (by omega) (by omega)).2
        refine zaldN S hK hP 116 325 (by decide) zk_116 zl_116 (by omega) (v := nI (D (pp - 1) qq)) ((congrArg (Y 116) (show 25 * pp - 25 + qq = 25 * (pp - 1) + qq by omega)).trans (hD (pp - 1) qq (by omega) (by omega) (by omega)).1) dX6_step_44 ?_
        refine lv_iconst (v := nI 1) hxx hbb dX6_step_45 (by decide) ?_
        refine zaddN S dX6_step_46 ?_
        refine lv_istore (lv' := [(7, .int (nI (D (pp - 1) qq + 1))), (6, .int ((nI (12 * x + pp)) - (nI 1))), (5, .int (nI 0)), (0, .ref (A 102)), (1, .int (nI x)), (2, .int (nI pp)), (3, .int (nI qq)), (4, .int (nI ex))]) hxx hbb dX6_step_47 hl (by decide) rfl (fun ls hl => ?_)
        refine lv_iload hxx hbb dX6_step_49 (lv_at hl 0 rfl) ?_
        refine lv_iload hxx hbb dX6_step_51 (lv_at hl 2 rfl) ?_
        refine zcmp_ge (tgt := 61) S (by omega) (by omega) dX6_step_53 (by decide) (fun c_21 => ?_) (fun c_21 => ?_)
        · skip
          refine lv_iload hxx hbb dX6_step_61 (lv_at hl 2 rfl) ?_
          refine lv_istore (lv' := [(5, .int (nI 0)), (7, .int (nI (D (pp - 1) qq + 1))), (6, .int ((nI (12 * x + pp)) - (nI 1))), (0, .ref (A 102)), (1, .int (nI x)), (2, .int (nI pp)), (3, .int (nI qq)), (4, .int (nI ex))]) hxx hbb dX6_step_63 hl (by decide) rfl (fun ls hl => ?_)
          exact L_65 0 (by first | (exfalso; omega) | (simp only [d1, hd0]; (repeat (first | rw [if_pos (by omega)] | rw [if_neg (by omega)])))) (by omega) _ _ _ hP hS (lv_sub hl [3, 4, 5, 6, 7, 0, 2] rfl)
        · skip
          refine lv_iload hxx hbb dX6_step_56 (lv_at hl 0 rfl) ?_
          refine lv_goto (tgt := 63) hxx hbb dX6_step_58 (by decide) ?_
          refine lv_istore (lv' := [(5, .int (nI (D (pp - 1) qq + 1))), (7, .int (nI (D (pp - 1) qq + 1))), (6, .int ((nI (12 * x + pp)) - (nI 1))), (0, .ref (A 102)), (1, .int (nI x)), (2, .int (nI pp)), (3, .int (nI qq)), (4, .int (nI ex))]) hxx hbb dX6_step_63 hl (by decide) rfl (fun ls hl => ?_)
          exact L_65 (D (pp - 1) qq + 1) (by first | (exfalso; omega) | (simp only [d1, hd0]; (repeat (first | rw [if_pos (by omega)] | rw [if_neg (by omega)])))) (by omega) _ _ _ hP hS (lv_sub hl [3, 4, 5, 6, 7, 0, 2] rfl)

set_option maxHeartbeats 4000000 in
set_option maxRecDepth 100000 in
theorem kX6_distance (l : Launch) (G : zG) (A : Nat → Nat) (Y : zY) (wd : Int32) (ex : Nat) (nw : Nat) (sz : Nat → Nat) (lt : Nat → Nat → Nat) (tx : Nat → Nat) (len : Nat) (hMD : MD Y nw sz lt tx len) (hex : ex ≤ 1) : ZI l yX6_distance cX6_distance 5 (.int) 1 27 G A Y [.ref (A 102), .int wd, .int (nI ex)] (fun r Y' => r = dA nw sz lt tx len ex wd ∧ MKd Y Y') := by
  refine ZI.enter (by decide) (Nat.le_of_ble_eq_true rfl) ?_
  intro p e s m args below meth c R Q hxx hbb S hK hfr hlo hret H ls hP hS hl
  have hB : ∀ q, zAd A q → zAd A q := fun _ h => h
  have hl : lv_has ls 5 [(0, .ref (A 102)), (1, .int wd), (2, .int (nI ex))] := hl
  have S : CallFix p m c cX6_distance 5 s args wsL_law RX6 := S
  have hMD9 := hMD
  obtain ⟨hnw, hlen, hsz, htx, hY25, hY19, hYt, hYw⟩ := hMD
  have hKK : MKd Y Y := MKd.rf
  refine lv_iload_n hxx hbb dX6_distance_0 rfl (lv_at hl 1 rfl) ?_
  refine lv_if_lt (tgt := 12) hxx hbb dX6_distance_1 (by decide) (fun c_1 => ?_) (fun c_1 => ?_)
  · skip
    refine lv_iconst (v := (-1)) hxx hbb dX6_distance_12 (by decide) ?_
    exact hret _ _ _ _ _ _ dX6_distance_13 (rfl) hP hS (⟨by unfold dA; rw [if_pos (by first | exact Or.inl ‹_› | exact Or.inr (Int32.not_lt.mp ‹_›))], MKd.rf⟩)
  · skip
    refine lv_iload_n hxx hbb dX6_distance_4 rfl (lv_at hl 1 rfl) ?_
    refine lv_aload_n hxx hbb dX6_distance_5 rfl (lv_at hl 0 rfl) ?_
    refine zgX6_173 S hK hP 102 (by decide) zk_102 (v := nI nw) (hY25) dX6_distance_6 ?_
    refine lv_icmp_lt (tgt := 14) hxx hbb dX6_distance_9 (by decide) (fun c_2 => ?_) (fun c_2 => ?_)
    · skip
      obtain ⟨x, hxl, hwx⟩ := nI_of c_1
      subst hwx
      have hx : x < nw := (nI_ltI hxl (by omega)).mp c_2
      obtain ⟨hs1, hs2, hs3⟩ := hsz x hx
      obtain ⟨D, hDD⟩ : ∃ D, D = dD (lt x) tx ex := ⟨_, rfl⟩
      have hDle : ∀ a b, a ≤ sz x → b ≤ len → D a b ≤ 100 := fun a b h1 h2 => by have := dD_le (a := lt x) (b := tx) (ex := ex) _ a b rfl; rw [hDD]; omega
      refine lv_iconst (v := nI 0) hxx hbb dX6_distance_14 (by decide) ?_
      refine lv_istore_n (lv' := [(3, .int (nI 0)), (0, .ref (A 102)), (1, .int (nI x)), (2, .int (nI ex))]) hxx hbb dX6_distance_15 rfl hl (by decide) rfl (fun ls hl => ?_)
      have L_16 : ∀ (N_16 : Nat) (pp : Nat) (Y1 : zY) (hp : pp ≤ sz x + 1) (hKK : MKd Y Y1) (hS9 : SDd Y1 D len pp 0), sz x + 1 - pp < N_16 → ∀ (H : Heap) (locs : List Loc) (ls : Array Slot), va_P G.1 vwCl (zW G A Y1) H → va_S (zAd A) s.heap H locs → lv_has ls 5 [(0, .ref (A 102)), (1, .int (nI x)), (2, .int (nI ex)), (3, .int (nI pp))] → W p l e R s m args below meth c H locs 0 0 Q (F0 m 16 ls []) := by
        intro N_16
        induction N_16 with
        | zero => intro pp Y1 hp hKK hS9 hm; exact absurd hm (Nat.not_lt_zero _)
        | succ N_16 ih_16 =>
          intro pp Y1 hp hKK hS9 hm_16 H locs ls hP hS hl
          refine lv_iload_n hxx hbb dX6_distance_16 rfl (lv_at hl 3 rfl) ?_
          refine lv_aload_n hxx hbb dX6_distance_17 rfl (lv_at hl 0 rfl) ?_
          refine zgX6_59 S hK hP 102 (by decide) zk_102 dX6_distance_18 ?_
          refine lv_iload_n hxx hbb dX6_distance_21 rfl (lv_at hl 1 rfl) ?_
          refine zaldN S hK hP 114 20 (by decide) zk_114 zl_114 (by omega) (v := nI (sz x)) ((congrFun (hKK 114 (by decide)) _).trans (hYw _ (by omega)).1) dX6_distance_22 ?_
          refine zcmp_gt (tgt := 71) S (by omega) (by omega) dX6_distance_23 (by decide) (fun c_3 => ?_) (fun c_3 => ?_)
          · skip
            refine lv_aload_n hxx hbb dX6_distance_71 rfl (lv_at hl 0 rfl) ?_
            refine zgX6_65 S hK hP 102 (by decide) zk_102 dX6_distance_72 ?_
            refine lv_bipush (v := nI 25) hxx hbb dX6_distance_75 (by decide) ?_
            refine lv_aload_n hxx hbb dX6_distance_77 rfl (lv_at hl 0 rfl) ?_
            refine zgX6_59 S hK hP 102 (by decide) zk_102 dX6_distance_78 ?_
            refine lv_iload_n hxx hbb dX6_distance_81 rfl (lv_at hl 1 rfl) ?_
            refine zaldN S hK hP 114 20 (by decide) zk_114 zl_114 (by omega) (v := nI (sz x)) ((congrFun (hKK 114 (by decide)) _).trans (hYw _ (by omega)).1) dX6_distance_82 ?_
            refine zmulN S dX6_distance_83 ?_
            refine lv_aload_n hxx hbb dX6_distance_84 rfl (lv_at hl 0 rfl) ?_
            refine zgX6_135 S hK hP 102 (by decide) zk_102 (v := nI len) ((congrFun (hKK 102 (by decide)) _).trans hY19) dX6_distance_85 ?_
            refine zaddN S dX6_distance_88 ?_
            refine zaldN S hK hP 116 325 (by decide) zk_116 zl_116 (by omega) (v := nI (D (sz x) len)) (hS9 _ _ (by omega) (by omega)) dX6_distance_89 ?_
            exact hret _ _ _ _ _ _ dX6_distance_90 (rfl) hP hS (⟨by rw [dA_nat hx hnw, hDD], hKK⟩)
          · skip
            refine lv_iconst (v := nI 0) hxx hbb dX6_distance_26 (by decide) ?_
            refine lv_istore (lv' := [(4, .int (nI 0)), (0, .ref (A 102)), (1, .int (nI x)), (2, .int (nI ex)), (3, .int (nI pp))]) hxx hbb dX6_distance_27 hl (by decide) rfl (fun ls hl => ?_)
            have L_29 : ∀ (N_29 : Nat) (qq : Nat) (Y1 : zY) (hq : qq ≤ len + 1) (hKK : MKd Y Y1) (hS9 : SDd Y1 D len pp qq), len + 1 - qq < N_29 → ∀ (H : Heap) (locs : List Loc) (ls : Array Slot), va_P G.1 vwCl (zW G A Y1) H → va_S (zAd A) s.heap H locs → lv_has ls 5 [(0, .ref (A 102)), (1, .int (nI x)), (2, .int (nI ex)), (3, .int (nI pp)), (4, .int (nI qq))] → W p l e R s m args below meth c H locs 0 0 Q (F0 m 29 ls []) := by
              intro N_29
              induction N_29 with
              | zero => intro qq Y1 hq hKK hS9 hm; exact absurd hm (Nat.not_lt_zero _)
              | succ N_29 ih_29 =>
                intro qq Y1 hq hKK hS9 hm_29 H locs ls hP hS hl
                refine lv_iload hxx hbb dX6_distance_29 (lv_at hl 4 rfl) ?_
                refine lv_aload_n hxx hbb dX6_distance_31 rfl (lv_at hl 0 rfl) ?_
                refine zgX6_135 S hK hP 102 (by decide) zk_102 (v := nI len) ((congrFun (hKK 102 (by decide)) _).trans hY19) dX6_distance_32 ?_
                refine zcmp_gt (tgt := 65) S (by omega) (by omega) dX6_distance_35 (by decide) (fun c_4 => ?_) (fun c_4 => ?_)
                · skip
                  refine lv_iinc (v := nI (pp + 1)) (lv' := [(3, .int (nI (pp + 1))), (0, .ref (A 102)), (1, .int (nI x)), (2, .int (nI ex)), (4, .int (nI qq))]) hxx hbb dX6_distance_65 hl (k := 3) rfl (zinc1 _) (by decide) rfl (fun ls hl => ?_)
                  refine lv_goto (tgt := 16) hxx hbb dX6_distance_68 (by decide) ?_
                  exact ih_16 (pp + 1) Y1 (by omega) hKK (hS9.next (by omega)) (by omega) _ _ _ hP hS (lv_sub hl [1, 2, 3, 0] rfl)
                · skip
                  refine lv_aload_n hxx hbb dX6_distance_38 rfl (lv_at hl 0 rfl) ?_
                  refine zgX6_65 S hK hP 102 (by decide) zk_102 dX6_distance_39 ?_
                  refine lv_bipush (v := nI 25) hxx hbb dX6_distance_42 (by decide) ?_
                  refine lv_iload_n hxx hbb dX6_distance_44 rfl (lv_at hl 3 rfl) ?_
                  refine zmulN S dX6_distance_45 ?_
                  refine lv_iload hxx hbb dX6_distance_46 (lv_at hl 4 rfl) ?_
                  refine zaddN S dX6_distance_48 ?_
                  have hd9 := hDle pp qq (by omega) (by omega)
                  refine lv_aload_n hxx hbb dX6_distance_49 rfl (lv_at hl 0 rfl) ?_
                  refine lv_iload_n hxx hbb dX6_distance_50 rfl (lv_at hl 1 rfl) ?_
                  refine lv_iload_n hxx hbb dX6_distance_51 rfl (lv_at hl 3 rfl) ?_
                  refine lv_iload hxx hbb dX6_distance_52 (lv_at hl 4 rfl) ?_
                  refine lv_iload_n hxx hbb dX6_distance_54 rfl (lv_at hl 2 rfl) ?_
                  refine ZI.callV S hK hP hS hB (kX6_step l G A Y1 x pp qq ex nw sz lt tx len D (hMD9.keep hKK) hx (by omega) (by omega) hex (fun p' q' h1 h2 h3 => ⟨hS9 p' q' (by omega) (by omega), hDle p' q' (by omega) (by omega)⟩)) zwX6_180 zdX6_step rfl ⟨Nat.le_trans (by decide) hfr, Nat.le_trans (by decide) hlo⟩ (by decide) (zcK6 zk_102) rfl rfl (Nat.le_of_ble_eq_true rfl) hl.1 dX6_distance_55 ⟨Nat.zero_le _, Nat.zero_le _⟩ (fun r_5 Y_6 H locs hq_7 hP hS => ?_)
                  obtain ⟨hr9, hY9⟩ := hq_7
                  have hr9 := hr9.trans (show _ = nI (D pp qq) by rw [hDD, ← dD_eq])
                  subst hr9; rw [hY9] at hP
                  refine zastN S hK hP hS hB 116 325 (by decide) zk_116 zl_116 (by omega) dX6_distance_58 (fun H locs hP hS => ?_)
                  refine lv_iinc (v := nI (qq + 1)) (lv' := [(4, .int (nI (qq + 1))), (0, .ref (A 102)), (1, .int (nI x)), (2, .int (nI ex)), (3, .int (nI pp))]) hxx hbb dX6_distance_59 hl (k := 4) rfl (zinc1 _) (by decide) rfl (fun ls hl => ?_)
                  refine lv_goto (tgt := 29) hxx hbb dX6_distance_62 (by decide) ?_
                  exact ih_29 (qq + 1) (zU Y1 116 (25 * pp + qq) (nI (D pp qq))) (by omega) hKK.put (hS9.put hlen (by omega)) (by omega) _ _ _ hP hS (lv_sub hl [1, 2, 3, 4, 0] rfl)
            exact L_29 (_ + 1) 0 Y1 (by omega) hKK hS9 (Nat.lt_succ_self _) _ _ _ hP hS (lv_sub hl [1, 2, 3, 4, 0] rfl)
      exact L_16 (_ + 1) 0 Y (by omega) hKK (fun a b _ h => absurd h (by omega)) (Nat.lt_succ_self _) _ _ _ hP hS (lv_sub hl [1, 2, 3, 0] rfl)
    · skip
      refine lv_iconst (v := (-1)) hxx hbb dX6_distance_12 (by decide) ?_
      exact hret _ _ _ _ _ _ dX6_distance_13 (rfl) hP hS (⟨by unfold dA; rw [if_pos (by first | exact Or.inl ‹_› | exact Or.inr (Int32.not_lt.mp ‹_›))], MKd.rf⟩)

set_option maxHeartbeats 4000000 in
set_option maxRecDepth 100000 in
theorem kX6_near (l : Launch) (G : zG) (A : Nat → Nat) (Y : zY) (kk : Int32) (ex : Nat) (nw : Nat) (sz : Nat → Nat) (lt : Nat → Nat → Nat) (tx : Nat → Nat) (len : Nat) (hMD : MD Y nw sz lt tx len) (hex : ex ≤ 1) : ZI l yX6_near cX6_near 5 (.int) 2 51 G A Y [.ref (A 102), .int kk, .int (nI ex)] (fun r Y' => r = nI (cN (nrN (fun w => dD (lt w) tx ex (sz w) len) kk) nw) ∧ MKd Y Y') := by
  refine ZI.enter (by decide) (Nat.le_of_ble_eq_true rfl) ?_
  intro p e s m args below meth c R Q hxx hbb S hK hfr hlo hret H ls hP hS hl
  have hB : ∀ q, zAd A q → zAd A q := fun _ h => h
  have hl : lv_has ls 5 [(0, .ref (A 102)), (1, .int kk), (2, .int (nI ex))] := hl
  have S : CallFix p m c cX6_near 5 s args wsL_law RX6 := S
  have hMD9 := hMD
  obtain ⟨hnw, hlen, hsz, htx, hY25, hY19, hYt, hYw⟩ := hMD
  have hKK : MKd Y Y := MKd.rf
  obtain ⟨dd, hdd⟩ : ∃ dd : Nat → Nat, dd = fun w => dD (lt w) tx ex (sz w) len := ⟨_, rfl⟩
  have hddle : ∀ w, w < nw → dd w ≤ 100 := fun w hw => by have h1 := dD_le (a := lt w) (b := tx) (ex := ex) _ (sz w) len rfl; have h2 := hsz w hw; rw [hdd]; show dD _ _ _ _ _ ≤ 100; omega
  refine lv_iconst (v := nI 0) hxx hbb dX6_near_0 (by decide) ?_
  refine lv_istore_n (lv' := [(3, .int (nI 0)), (0, .ref (A 102)), (1, .int kk), (2, .int (nI ex))]) hxx hbb dX6_near_1 rfl hl (by decide) rfl (fun ls hl => ?_)
  refine lv_iconst (v := nI 0) hxx hbb dX6_near_2 (by decide) ?_
  refine lv_istore (lv' := [(4, .int (nI 0)), (3, .int (nI 0)), (0, .ref (A 102)), (1, .int kk), (2, .int (nI ex))]) hxx hbb dX6_near_3 hl (by decide) rfl (fun ls hl => ?_)
  have L_5 : ∀ (N_5 : Nat) (x cc : Nat) (Y1 : zY) (hxn : x ≤ nw) (hKK : MKd Y Y1) (hc : cc = cN (nrN dd kk) x) (hcl : cc ≤ x), nw - x < N_5 → ∀ (H : Heap) (locs : List Loc) (ls : Array Slot), va_P G.1 vwCl (zW G A Y1) H → va_S (zAd A) s.heap H locs → lv_has ls 5 [(0, .ref (A 102)), (1, .int kk), (2, .int (nI ex)), (3, .int (nI cc)), (4, .int (nI x))] → W p l e R s m args below meth c H locs 0 0 Q (F0 m 5 ls []) := by
    intro N_5
    induction N_5 with
    | zero => intro x cc Y1 hxn hKK hc hcl hm; exact absurd hm (Nat.not_lt_zero _)
    | succ N_5 ih_5 =>
      intro x cc Y1 hxn hKK hc hcl hm_5 H locs ls hP hS hl
      refine lv_iload hxx hbb dX6_near_5 (lv_at hl 4 rfl) ?_
      refine lv_aload_n hxx hbb dX6_near_7 rfl (lv_at hl 0 rfl) ?_
      refine zgX6_173 S hK hP 102 (by decide) zk_102 (v := nI nw) ((congrFun (hKK 102 (by decide)) _).trans hY25) dX6_near_8 ?_
      refine zcmp_ge (tgt := 39) S (by omega) (by omega) dX6_near_11 (by decide) (fun c_1 => ?_) (fun c_1 => ?_)
      · skip
        refine lv_iload_n hxx hbb dX6_near_39 rfl (lv_at hl 3 rfl) ?_
        exact hret _ _ _ _ _ _ dX6_near_40 (rfl) hP hS (⟨by rw [hc, show x = nw by omega, hdd], hKK⟩)
      · skip
        refine lv_iload_n hxx hbb dX6_near_14 rfl (lv_at hl 3 rfl) ?_
        refine lv_aload_n hxx hbb dX6_near_15 rfl (lv_at hl 0 rfl) ?_
        refine lv_iload hxx hbb dX6_near_16 (lv_at hl 4 rfl) ?_
        refine lv_iload_n hxx hbb dX6_near_18 rfl (lv_at hl 2 rfl) ?_
        refine ZI.callV S hK hP hS hB (kX6_distance l G A Y1 (nI x) ex nw sz lt tx len (hMD9.keep hKK) (by omega)) zwX6_176 zdX6_distance rfl ⟨Nat.le_trans (by decide) hfr, Nat.le_trans (by decide) hlo⟩ (by decide) (zcK6 zk_102) rfl rfl (Nat.le_of_ble_eq_true rfl) hl.1 dX6_near_19 ⟨Nat.zero_le _, Nat.zero_le _⟩ (fun r_2 Y_3 H locs hq_4 hP hS => ?_)
        obtain ⟨hr9, hk9⟩ := hq_4
        have hKK := hKK.trans hk9
        have hxx9 : x < nw := by omega
        have hr9 := hr9.trans (dA_nat (by omega) hnw)
        have hr9 := hr9.trans (show _ = nI (dd x) by rw [hdd])
        have hd9 := hddle x
        subst hr9
        have hd9 := hd9 hxx9
        refine lv_iload_n hxx hbb dX6_near_22 rfl (lv_at hl 1 rfl) ?_
        refine lv_icmp_gt (tgt := 30) hxx hbb dX6_near_23 (by decide) (fun c_5 => ?_) (fun c_5 => ?_)
        · skip
          refine lv_iconst (v := nI 0) hxx hbb dX6_near_30 (by decide) ?_
          refine zaddN S dX6_near_31 ?_
          refine lv_istore_n (lv' := [(3, .int (nI (cc + 0))), (0, .ref (A 102)), (1, .int kk), (2, .int (nI ex)), (4, .int (nI x))]) hxx hbb dX6_near_32 rfl hl (by decide) rfl (fun ls hl => ?_)
          refine lv_iinc (v := nI (x + 1)) (lv' := [(4, .int (nI (x + 1))), (3, .int (nI (cc + 0))), (0, .ref (A 102)), (1, .int kk), (2, .int (nI ex))]) hxx hbb dX6_near_33 hl (k := 4) rfl (zinc1 _) (by decide) rfl (fun ls hl => ?_)
          refine lv_goto (tgt := 5) hxx hbb dX6_near_36 (by decide) ?_
          exact ih_5 (x + 1) (cc + 0) Y_3 (by omega) hKK (by simp only [cN, nrN, ← hc]; rw [if_neg (Int32.not_le.mpr c_5)]) (by omega) (by omega) _ _ _ hP hS (lv_sub hl [2, 3, 4, 1, 0] rfl)
        · skip
          refine lv_iconst (v := nI 1) hxx hbb dX6_near_26 (by decide) ?_
          refine lv_goto (tgt := 31) hxx hbb dX6_near_27 (by decide) ?_
          refine zaddN S dX6_near_31 ?_
          refine lv_istore_n (lv' := [(3, .int (nI (cc + 1))), (0, .ref (A 102)), (1, .int kk), (2, .int (nI ex)), (4, .int (nI x))]) hxx hbb dX6_near_32 rfl hl (by decide) rfl (fun ls hl => ?_)
          refine lv_iinc (v := nI (x + 1)) (lv' := [(4, .int (nI (x + 1))), (3, .int (nI (cc + 1))), (0, .ref (A 102)), (1, .int kk), (2, .int (nI ex))]) hxx hbb dX6_near_33 hl (k := 4) rfl (zinc1 _) (by decide) rfl (fun ls hl => ?_)
          refine lv_goto (tgt := 5) hxx hbb dX6_near_36 (by decide) ?_
          exact ih_5 (x + 1) (cc + 1) Y_3 (by omega) hKK (by simp only [cN, nrN, ← hc]; rw [if_pos (Int32.not_lt.mp c_5)]) (by omega) (by omega) _ _ _ hP hS (lv_sub hl [2, 3, 4, 1, 0] rfl)
  exact L_5 (_ + 1) 0 0 Y (by omega) hKK rfl (by omega) (Nat.lt_succ_self _) _ _ _ hP hS (lv_sub hl [2, 3, 4, 1, 0] rfl)

set_option maxHeartbeats 4000000 in
set_option maxRecDepth 100000 in
theorem kX6_earlier (l : Launch) (G : zG) (A : Nat → Nat) (Y : zY) (x z : Nat) (nw : Nat) (sz : Nat → Nat) (lt : Nat → Nat → Nat) (tx : Nat → Nat) (len : Nat) (hMD : MD Y nw sz lt tx len) (hx : x < nw) (hz : z < nw) : ZI l yX6_earlier cX6_earlier 4 (.boolean) 0 0 G A Y [.ref (A 102), .int (nI x), .int (nI z)] (fun r Y' => (LX (lt x) (sz x) (lt z) (sz z) ∧ r = nI 1 ∧ Y' = Y) ∨ (¬ LX (lt x) (sz x) (lt z) (sz z) ∧ r = nI 0 ∧ Y' = Y)) := by
  refine ZI.enter (by decide) (Nat.le_of_ble_eq_true rfl) ?_
  intro p e s m args below meth c R Q hxx hbb S hK hfr hlo hret H ls hP hS hl
  have hB : ∀ q, zAd A q → zAd A q := fun _ h => h
  have hl : lv_has ls 4 [(0, .ref (A 102)), (1, .int (nI x)), (2, .int (nI z))] := hl
  have S : CallFix p m c cX6_earlier 4 s args wsL_law RX6 := S
  have hMD9 := hMD
  obtain ⟨hnw, hlen, hsz, htx, hY25, hY19, hYt, hYw⟩ := hMD
  have hKK : MKd Y Y := MKd.rf
  have hsx := hsz x hx
  have hsz9 := hsz z hz
  refine lv_iconst (v := nI 0) hxx hbb dX6_earlier_0 (by decide) ?_
  refine lv_istore_n (lv' := [(3, .int (nI 0)), (0, .ref (A 102)), (1, .int (nI x)), (2, .int (nI z))]) hxx hbb dX6_earlier_1 rfl hl (by decide) rfl (fun ls hl => ?_)
  have L_2 : ∀ (N_2 : Nat) (k : Nat) (hk1 : k ≤ sz x) (hk2 : k ≤ sz z) (he : ∀ i, i < k → lt x i = lt z i), sz x - k < N_2 → ∀ (H : Heap) (locs : List Loc) (ls : Array Slot), va_P G.1 vwCl (zW G A Y) H → va_S (zAd A) s.heap H locs → lv_has ls 4 [(0, .ref (A 102)), (1, .int (nI x)), (2, .int (nI z)), (3, .int (nI k))] → W p l e R s m args below meth c H locs 0 0 Q (F0 m 2 ls []) := by
    intro N_2
    induction N_2 with
    | zero => intro k hk1 hk2 he hm; exact absurd hm (Nat.not_lt_zero _)
    | succ N_2 ih_2 =>
      intro k hk1 hk2 he hm_2 H locs ls hP hS hl
      refine lv_iload_n hxx hbb dX6_earlier_2 rfl (lv_at hl 3 rfl) ?_
      refine lv_aload_n hxx hbb dX6_earlier_3 rfl (lv_at hl 0 rfl) ?_
      refine zgX6_59 S hK hP 102 (by decide) zk_102 dX6_earlier_4 ?_
      refine lv_iload_n hxx hbb dX6_earlier_7 rfl (lv_at hl 1 rfl) ?_
      refine zaldN S hK hP 114 20 (by decide) zk_114 zl_114 (by omega) (v := nI (sz x)) ((hYw _ (by omega)).1) dX6_earlier_8 ?_
      refine zcmp_ge (tgt := 53) S (by omega) (by omega) dX6_earlier_9 (by decide) (fun c_1 => ?_) (fun c_1 => ?_)
      · skip
        refine lv_iload_n hxx hbb dX6_earlier_53 rfl (lv_at hl 3 rfl) ?_
        refine lv_aload_n hxx hbb dX6_earlier_54 rfl (lv_at hl 0 rfl) ?_
        refine zgX6_59 S hK hP 102 (by decide) zk_102 dX6_earlier_55 ?_
        refine lv_iload_n hxx hbb dX6_earlier_58 rfl (lv_at hl 1 rfl) ?_
        refine zaldN S hK hP 114 20 (by decide) zk_114 zl_114 (by omega) (v := nI (sz x)) ((hYw _ (by omega)).1) dX6_earlier_59 ?_
        refine zcmp_eq (tgt := 73) S (by omega) (by omega) dX6_earlier_60 (by decide) (fun c_2 => ?_) (fun c_2 => ?_)
        · skip
          refine lv_aload_n hxx hbb dX6_earlier_73 rfl (lv_at hl 0 rfl) ?_
          refine zgX6_59 S hK hP 102 (by decide) zk_102 dX6_earlier_74 ?_
          refine lv_iload_n hxx hbb dX6_earlier_77 rfl (lv_at hl 1 rfl) ?_
          refine zaldN S hK hP 114 20 (by decide) zk_114 zl_114 (by omega) (v := nI (sz x)) ((hYw _ (by omega)).1) dX6_earlier_78 ?_
          refine lv_aload_n hxx hbb dX6_earlier_79 rfl (lv_at hl 0 rfl) ?_
          refine zgX6_59 S hK hP 102 (by decide) zk_102 dX6_earlier_80 ?_
          refine lv_iload_n hxx hbb dX6_earlier_83 rfl (lv_at hl 2 rfl) ?_
          refine zaldN S hK hP 114 20 (by decide) zk_114 zl_114 (by omega) (v := nI (sz z)) ((hYw _ (by omega)).1) dX6_earlier_84 ?_
          refine zcmp_ge (tgt := 92) S (by omega) (by omega) dX6_earlier_85 (by decide) (fun c_3 => ?_) (fun c_3 => ?_)
          · skip
            refine lv_iconst (v := nI 0) hxx hbb dX6_earlier_92 (by decide) ?_
            exact hret _ _ _ _ _ _ dX6_earlier_93 (by first | rfl | decide) hP hS (Or.inr ⟨fun z => by have := (LX_end hk1 hk2 he (by omega)).mp z; omega, rfl, rfl⟩)
          · skip
            refine lv_iconst (v := nI 1) hxx hbb dX6_earlier_88 (by decide) ?_
            refine lv_goto (tgt := 93) hxx hbb dX6_earlier_89 (by decide) ?_
            exact hret _ _ _ _ _ _ dX6_earlier_93 (by first | rfl | decide) hP hS (Or.inl ⟨(LX_end hk1 hk2 he (by omega)).mpr (by omega), rfl, rfl⟩)
        · skip
          refine lv_iload_n hxx hbb dX6_earlier_63 rfl (lv_at hl 3 rfl) ?_
          refine lv_aload_n hxx hbb dX6_earlier_64 rfl (lv_at hl 0 rfl) ?_
          refine zgX6_59 S hK hP 102 (by decide) zk_102 dX6_earlier_65 ?_
          refine lv_iload_n hxx hbb dX6_earlier_68 rfl (lv_at hl 2 rfl) ?_
          refine zaldN S hK hP 114 20 (by decide) zk_114 zl_114 (by omega) (v := nI (sz z)) ((hYw _ (by omega)).1) dX6_earlier_69 ?_
          refine zcmp_ne (tgt := 94) S (by omega) (by omega) dX6_earlier_70 (by decide) (fun c_4 => ?_) (fun c_4 => ?_)
          · skip
            have hl8 := (hsz x hx).2.2 k (by omega)
            have hl9 := (hsz z hz).2.2 k (by omega)
            refine lv_aload_n hxx hbb dX6_earlier_94 rfl (lv_at hl 0 rfl) ?_
            refine zgX6_62 S hK hP 102 (by decide) zk_102 dX6_earlier_95 ?_
            refine lv_bipush (v := nI 12) hxx hbb dX6_earlier_98 (by decide) ?_
            refine lv_iload_n hxx hbb dX6_earlier_100 rfl (lv_at hl 1 rfl) ?_
            refine zmulN S dX6_earlier_101 ?_
            refine lv_iload_n hxx hbb dX6_earlier_102 rfl (lv_at hl 3 rfl) ?_
            refine zaddN S dX6_earlier_103 ?_
            refine zaldN S hK hP 115 240 (by decide) zk_115 zl_115 (by omega) (v := nI (lt x k)) ((hYw x (by omega)).2 k (by omega)) dX6_earlier_104 ?_
            refine lv_aload_n hxx hbb dX6_earlier_105 rfl (lv_at hl 0 rfl) ?_
            refine zgX6_62 S hK hP 102 (by decide) zk_102 dX6_earlier_106 ?_
            refine lv_bipush (v := nI 12) hxx hbb dX6_earlier_109 (by decide) ?_
            refine lv_iload_n hxx hbb dX6_earlier_111 rfl (lv_at hl 2 rfl) ?_
            refine zmulN S dX6_earlier_112 ?_
            refine lv_iload_n hxx hbb dX6_earlier_113 rfl (lv_at hl 3 rfl) ?_
            refine zaddN S dX6_earlier_114 ?_
            refine zaldN S hK hP 115 240 (by decide) zk_115 zl_115 (by omega) (v := nI (lt z k)) ((hYw z (by omega)).2 k (by omega)) dX6_earlier_115 ?_
            refine zcmp_ge (tgt := 123) S (by omega) (by omega) dX6_earlier_116 (by decide) (fun c_5 => ?_) (fun c_5 => ?_)
            · skip
              refine lv_iconst (v := nI 0) hxx hbb dX6_earlier_123 (by decide) ?_
              exact hret _ _ _ _ _ _ dX6_earlier_124 (by first | rfl | decide) hP hS (Or.inr ⟨fun z => by have := (LX_at (by omega) (by omega) he (by omega)).mp z; omega, rfl, rfl⟩)
            · skip
              refine lv_iconst (v := nI 1) hxx hbb dX6_earlier_119 (by decide) ?_
              refine lv_goto (tgt := 124) hxx hbb dX6_earlier_120 (by decide) ?_
              exact hret _ _ _ _ _ _ dX6_earlier_124 (by first | rfl | decide) hP hS (Or.inl ⟨(LX_at (by omega) (by omega) he (by omega)).mpr (by omega), rfl, rfl⟩)
          · skip
            refine lv_aload_n hxx hbb dX6_earlier_73 rfl (lv_at hl 0 rfl) ?_
            refine zgX6_59 S hK hP 102 (by decide) zk_102 dX6_earlier_74 ?_
            refine lv_iload_n hxx hbb dX6_earlier_77 rfl (lv_at hl 1 rfl) ?_
            refine zaldN S hK hP 114 20 (by decide) zk_114 zl_114 (by omega) (v := nI (sz x)) ((hYw _ (by omega)).1) dX6_earlier_78 ?_
            refine lv_aload_n hxx hbb dX6_earlier_79 rfl (lv_at hl 0 rfl) ?_
            refine zgX6_59 S hK hP 102 (by decide) zk_102 dX6_earlier_80 ?_
            refine lv_iload_n hxx hbb dX6_earlier_83 rfl (lv_at hl 2 rfl) ?_
            refine zaldN S hK hP 114 20 (by decide) zk_114 zl_114 (by omega) (v := nI (sz z)) ((hYw _ (by omega)).1) dX6_earlier_84 ?_
            refine zcmp_ge (tgt := 92) S (by omega) (by omega) dX6_earlier_85 (by decide) (fun c_6 => ?_) (fun c_6 => ?_)
            · skip
              refine lv_iconst (v := nI 0) hxx hbb dX6_earlier_92 (by decide) ?_
              exact hret _ _ _ _ _ _ dX6_earlier_93 (by first | rfl | decide) hP hS (Or.inr ⟨fun z => by have := (LX_end hk1 hk2 he (by omega)).mp z; omega, rfl, rfl⟩)
            · skip
              refine lv_iconst (v := nI 1) hxx hbb dX6_earlier_88 (by decide) ?_
              refine lv_goto (tgt := 93) hxx hbb dX6_earlier_89 (by decide) ?_
              exact hret _ _ _ _ _ _ dX6_earlier_93 (by first | rfl | decide) hP hS (Or.inl ⟨(LX_end hk1 hk2 he (by omega)).mpr (by omega), rfl, rfl⟩)
      · skip
        refine lv_iload_n hxx hbb dX6_earlier_12 rfl (lv_at hl 3 rfl) ?_
        refine lv_aload_n hxx hbb dX6_earlier_13 rfl (lv_at hl 0 rfl) ?_
        refine zgX6_59 S hK hP 102 (by decide) zk_102 dX6_earlier_14 ?_
        refine lv_iload_n hxx hbb dX6_earlier_17 rfl (lv_at hl 2 rfl) ?_
        refine zaldN S hK hP 114 20 (by decide) zk_114 zl_114 (by omega) (v := nI (sz z)) ((hYw _ (by omega)).1) dX6_earlier_18 ?_
        refine zcmp_ge (tgt := 53) S (by omega) (by omega) dX6_earlier_19 (by decide) (fun c_7 => ?_) (fun c_7 => ?_)
        · skip
          refine lv_iload_n hxx hbb dX6_earlier_53 rfl (lv_at hl 3 rfl) ?_
          refine lv_aload_n hxx hbb dX6_earlier_54 rfl (lv_at hl 0 rfl) ?_
          refine zgX6_59 S hK hP 102 (by decide) zk_102 dX6_earlier_55 ?_
          refine lv_iload_n hxx hbb dX6_earlier_58 rfl (lv_at hl 1 rfl) ?_
          refine zaldN S hK hP 114 20 (by decide) zk_114 zl_114 (by omega) (v := nI (sz x)) ((hYw _ (by omega)).1) dX6_earlier_59 ?_
          refine zcmp_eq (tgt := 73) S (by omega) (by omega) dX6_earlier_60 (by decide) (fun c_8 => ?_) (fun c_8 => ?_)
          · skip
            refine lv_aload_n hxx hbb dX6_earlier_73 rfl (lv_at hl 0 rfl) ?_
            refine zgX6_59 S hK hP 102 (by decide) zk_102 dX6_earlier_74 ?_
            refine lv_iload_n hxx hbb dX6_earlier_77 rfl (lv_at hl 1 rfl) ?_
            refine zaldN S hK hP 114 20 (by decide) zk_114 zl_114 (by omega) (v := nI (sz x)) ((hYw _ (by omega)).1) dX6_earlier_78 ?_
            refine lv_aload_n hxx hbb dX6_earlier_79 rfl (lv_at hl 0 rfl) ?_
            refine zgX6_59 S hK hP 102 (by decide) zk_102 dX6_earlier_80 ?_
            refine lv_iload_n hxx hbb dX6_earlier_83 rfl (lv_at hl 2 rfl) ?_
            refine zaldN S hK hP 114 20 (by decide) zk_114 zl_114 (by omega) (v := nI (sz z)) ((hYw _ (by omega)).1) dX6_earlier_84 ?_
            refine zcmp_ge (tgt := 92) S (by omega) (by omega) dX6_earlier_85 (by decide) (fun c_9 => ?_) (fun c_9 => ?_)
            · skip
              refine lv_iconst (v := nI 0) hxx hbb dX6_earlier_92 (by decide) ?_
              exact hret _ _ _ _ _ _ dX6_earlier_93 (by first | rfl | decide) hP hS (Or.inr ⟨fun z => by have := (LX_end hk1 hk2 he (by omega)).mp z; omega, rfl, rfl⟩)
            · skip
              refine lv_iconst (v := nI 1) hxx hbb dX6_earlier_88 (by decide) ?_
              refine lv_goto (tgt := 93) hxx hbb dX6_earlier_89 (by decide) ?_
              exact hret _ _ _ _ _ _ dX6_earlier_93 (by first | rfl | decide) hP hS (Or.inl ⟨(LX_end hk1 hk2 he (by omega)).mpr (by omega), rfl, rfl⟩)
          · skip
            refine lv_iload_n hxx hbb dX6_earlier_63 rfl (lv_at hl 3 rfl) ?_
            refine lv_aload_n hxx hbb dX6_earlier_64 rfl (lv_at hl 0 rfl) ?_
            refine zgX6_59 S hK hP 102 (by decide) zk_102 dX6_earlier_65 ?_
            refine lv_iload_n hxx hbb dX6_earlier_68 rfl (lv_at hl 2 rfl) ?_
            refine zaldN S hK hP 114 20 (by decide) zk_114 zl_114 (by omega) (v := nI (sz z)) ((hYw _ (by omega)).1) dX6_earlier_69 ?_
            refine zcmp_ne (tgt := 94) S (by omega) (by omega) dX6_earlier_70 (by decide) (fun c_10 => ?_) (fun c_10 => ?_)
            · skip
              have hl8 := (hsz x hx).2.2 k (by omega)
              have hl9 := (hsz z hz).2.2 k (by omega)
              refine lv_aload_n hxx hbb dX6_earlier_94 rfl (lv_at hl 0 rfl) ?_
              refine zgX6_62 S hK hP 102 (by decide) zk_102 dX6_earlier_95 ?_
              refine lv_bipush (v := nI 12) hxx hbb dX6_earlier_98 (by decide) ?_
              refine lv_iload_n hxx hbb dX6_earlier_100 rfl (lv_at hl 1 rfl) ?_
              refine zmulN S dX6_earlier_101 ?_
              refine lv_iload_n hxx hbb dX6_earlier_102 rfl (lv_at hl 3 rfl) ?_
              refine zaddN S dX6_earlier_103 ?_
              refine zaldN S hK hP 115 240 (by decide) zk_115 zl_115 (by omega) (v := nI (lt x k)) ((hYw x (by omega)).2 k (by omega)) dX6_earlier_104 ?_
              refine lv_aload_n hxx hbb dX6_earlier_105 rfl (lv_at hl 0 rfl) ?_
              refine zgX6_62 S hK hP 102 (by decide) zk_102 dX6_earlier_106 ?_
              refine lv_bipush (v := nI 12) hxx hbb dX6_earlier_109 (by decide) ?_
              refine lv_iload_n hxx hbb dX6_earlier_111 rfl (lv_at hl 2 rfl) ?_
              refine zmulN S dX6_earlier_112 ?_
              refine lv_iload_n hxx hbb dX6_earlier_113 rfl (lv_at hl 3 rfl) ?_
              refine zaddN S dX6_earlier_114 ?_
              refine zaldN S hK hP 115 240 (by decide) zk_115 zl_115 (by omega) (v := nI (lt z k)) ((hYw z (by omega)).2 k (by omega)) dX6_earlier_115 ?_
              refine zcmp_ge (tgt := 123) S (by omega) (by omega) dX6_earlier_116 (by decide) (fun c_11 => ?_) (fun c_11 => ?_)
              · skip
                refine lv_iconst (v := nI 0) hxx hbb dX6_earlier_123 (by decide) ?_
                exact hret _ _ _ _ _ _ dX6_earlier_124 (by first | rfl | decide) hP hS (Or.inr ⟨fun z => by have := (LX_at (by omega) (by omega) he (by omega)).mp z; omega, rfl, rfl⟩)
              · skip
                refine lv_iconst (v := nI 1) hxx hbb dX6_earlier_119 (by decide) ?_
                refine lv_goto (tgt := 124) hxx hbb dX6_earlier_120 (by decide) ?_
                exact hret _ _ _ _ _ _ dX6_earlier_124 (by first | rfl | decide) hP hS (Or.inl ⟨(LX_at (by omega) (by omega) he (by omega)).mpr (by omega), rfl, rfl⟩)
            · skip
              refine lv_aload_n hxx hbb dX6_earlier_73 rfl (lv_at hl 0 rfl) ?_
              refine zgX6_59 S hK hP 102 (by decide) zk_102 dX6_earlier_74 ?_
              refine lv_iload_n hxx hbb dX6_earlier_77 rfl (lv_at hl 1 rfl) ?_
              refine zaldN S hK hP 114 20 (by decide) zk_114 zl_114 (by omega) (v := nI (sz x)) ((hYw _ (by omega)).1) dX6_earlier_78 ?_
              refine lv_aload_n hxx hbb dX6_earlier_79 rfl (lv_at hl 0 rfl) ?_
              refine zgX6_59 S hK hP 102 (by decide) zk_102 dX6_earlier_80 ?_
              refine lv_iload_n hxx hbb dX6_earlier_83 rfl (lv_at hl 2 rfl) ?_
              refine zaldN S hK hP 114 20 (by decide) zk_114 zl_114 (by omega) (v := nI (sz z)) ((hYw _ (by omega)).1) dX6_earlier_84 ?_
              refine zcmp_ge (tgt := 92) S (by omega) (by omega) dX6_earlier_85 (by decide) (fun c_12 => ?_) (fun c_12 => ?_)
              · skip
                refine lv_iconst (v := nI 0) hxx hbb dX6_earlier_92 (by decide) ?_
                exact hret _ _ _ _ _ _ dX6_earlier_93 (by first | rfl | decide) hP hS (Or.inr ⟨fun z => by have := (LX_end hk1 hk2 he (by omega)).mp z; omega, rfl, rfl⟩)
              · skip
                refine lv_iconst (v := nI 1) hxx hbb dX6_earlier_88 (by decide) ?_
                refine lv_goto (tgt := 93) hxx hbb dX6_earlier_89 (by decide) ?_
                exact hret _ _ _ _ _ _ dX6_earlier_93 (by first | rfl | decide) hP hS (Or.inl ⟨(LX_end hk1 hk2 he (by omega)).mpr (by omega), rfl, rfl⟩)
        · skip
          have hl8 := (hsz x hx).2.2 k (by omega)
          have hl9 := (hsz z hz).2.2 k (by omega)
          refine lv_aload_n hxx hbb dX6_earlier_22 rfl (lv_at hl 0 rfl) ?_
          refine zgX6_62 S hK hP 102 (by decide) zk_102 dX6_earlier_23 ?_
          refine lv_bipush (v := nI 12) hxx hbb dX6_earlier_26 (by decide) ?_
          refine lv_iload_n hxx hbb dX6_earlier_28 rfl (lv_at hl 1 rfl) ?_
          refine zmulN S dX6_earlier_29 ?_
          refine lv_iload_n hxx hbb dX6_earlier_30 rfl (lv_at hl 3 rfl) ?_
          refine zaddN S dX6_earlier_31 ?_
          refine zaldN S hK hP 115 240 (by decide) zk_115 zl_115 (by omega) (v := nI (lt x k)) ((hYw x (by omega)).2 k (by omega)) dX6_earlier_32 ?_
          refine lv_aload_n hxx hbb dX6_earlier_33 rfl (lv_at hl 0 rfl) ?_
          refine zgX6_62 S hK hP 102 (by decide) zk_102 dX6_earlier_34 ?_
          refine lv_bipush (v := nI 12) hxx hbb dX6_earlier_37 (by decide) ?_
          refine lv_iload_n hxx hbb dX6_earlier_39 rfl (lv_at hl 2 rfl) ?_
          refine zmulN S dX6_earlier_40 ?_
          refine lv_iload_n hxx hbb dX6_earlier_41 rfl (lv_at hl 3 rfl) ?_
          refine zaddN S dX6_earlier_42 ?_
          refine zaldN S hK hP 115 240 (by decide) zk_115 zl_115 (by omega) (v := nI (lt z k)) ((hYw z (by omega)).2 k (by omega)) dX6_earlier_43 ?_
          refine zcmp_ne (tgt := 53) S (by omega) (by omega) dX6_earlier_44 (by decide) (fun c_13 => ?_) (fun c_13 => ?_)
          · skip
            refine lv_iload_n hxx hbb dX6_earlier_53 rfl (lv_at hl 3 rfl) ?_
            refine lv_aload_n hxx hbb dX6_earlier_54 rfl (lv_at hl 0 rfl) ?_
            refine zgX6_59 S hK hP 102 (by decide) zk_102 dX6_earlier_55 ?_
            refine lv_iload_n hxx hbb dX6_earlier_58 rfl (lv_at hl 1 rfl) ?_
            refine zaldN S hK hP 114 20 (by decide) zk_114 zl_114 (by omega) (v := nI (sz x)) ((hYw _ (by omega)).1) dX6_earlier_59 ?_
            refine zcmp_eq (tgt := 73) S (by omega) (by omega) dX6_earlier_60 (by decide) (fun c_14 => ?_) (fun c_14 => ?_)
            · skip
              refine lv_aload_n hxx hbb dX6_earlier_73 rfl (lv_at hl 0 rfl) ?_
              refine zgX6_59 S hK hP 102 (by decide) zk_102 dX6_earlier_74 ?_
              refine lv_iload_n hxx hbb dX6_earlier_77 rfl (lv_at hl 1 rfl) ?_
              refine zaldN S hK hP 114 20 (by decide) zk_114 zl_114 (by omega) (v := nI (sz x)) ((hYw _ (by omega)).1) dX6_earlier_78 ?_
              refine lv_aload_n hxx hbb dX6_earlier_79 rfl (lv_at hl 0 rfl) ?_
              refine zgX6_59 S hK hP 102 (by decide) zk_102 dX6_earlier_80 ?_
              refine lv_iload_n hxx hbb dX6_earlier_83 rfl (lv_at hl 2 rfl) ?_
              refine zaldN S hK hP 114 20 (by decide) zk_114 zl_114 (by omega) (v := nI (sz z)) ((hYw _ (by omega)).1) dX6_earlier_84 ?_
              refine zcmp_ge (tgt := 92) S (by omega) (by omega) dX6_earlier_85 (by decide) (fun c_15 => ?_) (fun c_15 => ?_)
              · skip
                refine lv_iconst (v := nI 0) hxx hbb dX6_earlier_92 (by decide) ?_
                exact hret _ _ _ _ _ _ dX6_earlier_93 (by first | rfl | decide) hP hS (Or.inr ⟨fun z => by have := (LX_end hk1 hk2 he (by omega)).mp z; omega, rfl, rfl⟩)
              · skip
                refine lv_iconst (v := nI 1) hxx hbb dX6_earlier_88 (by decide) ?_
                refine lv_goto (tgt := 93) hxx hbb dX6_earlier_89 (by decide) ?_
                exact hret _ _ _ _ _ _ dX6_earlier_93 (by first | rfl | decide) hP hS (Or.inl ⟨(LX_end hk1 hk2 he (by omega)).mpr (by omega), rfl, rfl⟩)
            · skip
              refine lv_iload_n hxx hbb dX6_earlier_63 rfl (lv_at hl 3 rfl) ?_
              refine lv_aload_n hxx hbb dX6_earlier_64 rfl (lv_at hl 0 rfl) ?_
              refine zgX6_59 S hK hP 102 (by decide) zk_102 dX6_earlier_65 ?_
              refine lv_iload_n hxx hbb dX6_earlier_68 rfl (lv_at hl 2 rfl) ?_
              refine zaldN S hK hP 114 20 (by decide) zk_114 zl_114 (by omega) (v := nI (sz z)) ((hYw _ (by omega)).1) dX6_earlier_69 ?_
              refine zcmp_ne (tgt := 94) S (by omega) (by omega) dX6_earlier_70 (by decide) (fun c_16 => ?_) (fun c_16 => ?_)
              · skip
                have hl8 := (hsz x hx).2.2 k (by omega)
                have hl9 := (hsz z hz).2.2 k (by omega)
                refine lv_aload_n hxx hbb dX6_earlier_94 rfl (lv_at hl 0 rfl) ?_
                refine zgX6_62 S hK hP 102 (by decide) zk_102 dX6_earlier_95 ?_
                refine lv_bipush (v := nI 12) hxx hbb dX6_earlier_98 (by decide) ?_
                refine lv_iload_n hxx hbb dX6_earlier_100 rfl (lv_at hl 1 rfl) ?_
                refine zmulN S dX6_earlier_101 ?_
                refine lv_iload_n hxx hbb dX6_earlier_102 rfl (lv_at hl 3 rfl) ?_
                refine zaddN S dX6_earlier_103 ?_
                refine zaldN S hK hP 115 240 (by decide) zk_115 zl_115 (by omega) (v := nI (lt x k)) ((hYw x (by omega)).2 k (by omega)) dX6_earlier_104 ?_
                refine lv_aload_n hxx hbb dX6_earlier_105 rfl (lv_at hl 0 rfl) ?_
                refine zgX6_62 S hK hP 102 (by decide) zk_102 dX6_earlier_106 ?_
                refine lv_bipush (v := nI 12) hxx hbb dX6_earlier_109 (by decide) ?_
                refine lv_iload_n hxx hbb dX6_earlier_111 rfl (lv_at hl 2 rfl) ?_
                refine zmulN S dX6_earlier_112 ?_
                refine lv_iload_n hxx hbb dX6_earlier_113 rfl (lv_at hl 3 rfl) ?_
                refine zaddN S dX6_earlier_114 ?_
                refine zaldN S hK hP 115 240 (by decide) zk_115 zl_115 (by omega) (v := nI (lt z k)) ((hYw z (by omega)).2 k (by omega)) dX6_earlier_115 ?_
                refine zcmp_ge (tgt := 123) S (by omega) (by omega) dX6_earlier_116 (by decide) (fun c_17 => ?_) (fun c_17 => ?_)
                · skip
                  refine lv_iconst (v := nI 0) hxx hbb dX6_earlier_123 (by decide) ?_
                  exact hret _ _ _ _ _ _ dX6_earlier_124 (by first | rfl | decide) hP hS (Or.inr ⟨fun z => by have := (LX_at (by omega) (by omega) he (by omega)).mp z; omega, rfl, rfl⟩)
                · skip
                  refine lv_iconst (v := nI 1) hxx hbb dX6_earlier_119 (by decide) ?_
                  refine lv_goto (tgt := 124) hxx hbb dX6_earlier_120 (by decide) ?_
                  exact hret _ _ _ _ _ _ dX6_earlier_124 (by first | rfl | decide) hP hS (Or.inl ⟨(LX_at (by omega) (by omega) he (by omega)).mpr (by omega), rfl, rfl⟩)
              · skip
                refine lv_aload_n hxx hbb dX6_earlier_73 rfl (lv_at hl 0 rfl) ?_
                refine zgX6_59 S hK hP 102 (by decide) zk_102 dX6_earlier_74 ?_
                refine lv_iload_n hxx hbb dX6_earlier_77 rfl (lv_at hl 1 rfl) ?_
                refine zaldN S hK hP 114 20 (by decide) zk_114 zl_114 (by omega) (v := nI (sz x)) ((hYw _ (by omega)).1) dX6_earlier_78 ?_
                refine lv_aload_n hxx hbb dX6_earlier_79 rfl (lv_at hl 0 rfl) ?_
                refine zgX6_59 S hK hP 102 (by decide) zk_102 dX6_earlier_80 ?_
                refine lv_iload_n hxx hbb dX6_earlier_83 rfl (lv_at hl 2 rfl) ?_
                refine zaldN S hK hP 114 20 (by decide) zk_114 zl_114 (by omega) (v := nI (sz z)) ((hYw _ (by omega)).1) dX6_earlier_84 ?_
                refine zcmp_ge (tgt := 92) S (by omega) (by omega) dX6_earlier_85 (by decide) (fun c_18 => ?_) (fun c_18 => ?_)
                · skip
                  refine lv_iconst (v := nI 0) hxx hbb dX6_earlier_92 (by decide) ?_
                  exact hret _ _ _ _ _ _ dX6_earlier_93 (by first | rfl | decide) hP hS (Or.inr ⟨fun z => by have := (LX_end hk1 hk2 he (by omega)).mp z; omega, rfl, rfl⟩)
                · skip
                  refine lv_iconst (v := nI 1) hxx hbb dX6_earlier_88 (by decide) ?_
                  refine lv_goto (tgt := 93) hxx hbb dX6_earlier_89 (by decide) ?_
                  exact hret _ _ _ _ _ _ dX6_earlier_93 (by first | rfl | decide) hP hS (Or.inl ⟨(LX_end hk1 hk2 he (by omega)).mpr (by omega), rfl, rfl⟩)
          · skip
            refine lv_iinc (v := nI (k + 1)) (lv' := [(3, .int (nI (k + 1))), (0, .ref (A 102)), (1, .int (nI x)), (2, .int (nI z))]) hxx hbb dX6_earlier_47 hl (k := 3) rfl (zinc1 _) (by decide) rfl (fun ls hl => ?_)
            refine lv_goto (tgt := 2) hxx hbb dX6_earlier_50 (by decide) ?_
            exact ih_2 (k + 1) (by omega) (by omega) (fun i hi => (Nat.lt_succ_iff_lt_or_eq.mp hi).elim (he i) (fun e => by subst e; omega)) (by omega) _ _ _ hP hS (lv_sub hl [1, 2, 3, 0] rfl)
  exact L_2 (_ + 1) 0 (by omega) (by omega) (fun i hi => absurd hi (by omega)) (Nat.lt_succ_self _) _ _ _ hP hS (lv_sub hl [1, 2, 3, 0] rfl)

set_option maxHeartbeats 4000000 in
set_option maxRecDepth 100000 in
theorem kX6_rank (l : Launch) (G : zG) (A : Nat → Nat) (Y : zY) (rr : Int32) (ex : Nat) (nw : Nat) (sz : Nat → Nat) (lt : Nat → Nat → Nat) (tx : Nat → Nat) (len : Nat) (hMD : MD Y nw sz lt tx len) (hex : ex ≤ 1) : ZI l yX6_rank cX6_rank 8 (.int) 2 51 G A Y [.ref (A 102), .int rr, .int (nI ex)] (fun r Y' => rkP (fun x => cN (rkN sz lt (fun w => dD (lt w) tx ex (sz w) len) x) nw) nw rr r ∧ MKd Y Y') := by
  refine ZI.enter (by decide) (Nat.le_of_ble_eq_true rfl) ?_
  intro p e s m args below meth c R Q hxx hbb S hK hfr hlo hret H ls hP hS hl
  have hB : ∀ q, zAd A q → zAd A q := fun _ h => h
  have hl : lv_has ls 8 [(0, .ref (A 102)), (1, .int rr), (2, .int (nI ex))] := hl
  have S : CallFix p m c cX6_rank 8 s args wsL_law RX6 := S
  have hMD9 := hMD
  obtain ⟨hnw, hlen, hsz, htx, hY25, hY19, hYt, hYw⟩ := hMD
  have hKK : MKd Y Y := MKd.rf
  obtain ⟨dd, hdd⟩ : ∃ dd : Nat → Nat, dd = fun w => dD (lt w) tx ex (sz w) len := ⟨_, rfl⟩
  have hddle : ∀ w, w < nw → dd w ≤ 100 := fun w hw => by have h1 := dD_le (a := lt w) (b := tx) (ex := ex) _ (sz w) len rfl; have h2 := hsz w hw; rw [hdd]; show dD _ _ _ _ _ ≤ 100; omega
  refine lv_iconst (v := nI 0) hxx hbb dX6_rank_0 (by decide) ?_
  refine lv_istore_n (lv' := [(3, .int (nI 0)), (0, .ref (A 102)), (1, .int rr), (2, .int (nI ex))]) hxx hbb dX6_rank_1 rfl hl (by decide) rfl (fun ls hl => ?_)
  have L_2 : ∀ (N_2 : Nat) (x : Nat) (Y1 : zY) (hxn : x ≤ nw) (hKK : MKd Y Y1) (hno : ∀ v, v < x → nI (cN (rkN sz lt dd v) nw) ≠ rr), nw - x < N_2 → ∀ (H : Heap) (locs : List Loc) (ls : Array Slot), va_P G.1 vwCl (zW G A Y1) H → va_S (zAd A) s.heap H locs → lv_has ls 8 [(0, .ref (A 102)), (1, .int rr), (2, .int (nI ex)), (3, .int (nI x))] → W p l e R s m args below meth c H locs 0 0 Q (F0 m 2 ls []) := by
    intro N_2
    induction N_2 with
    | zero => intro x Y1 hxn hKK hno hm; exact absurd hm (Nat.not_lt_zero _)
    | succ N_2 ih_2 =>
      intro x Y1 hxn hKK hno hm_2 H locs ls hP hS hl
      refine lv_iload_n hxx hbb dX6_rank_2 rfl (lv_at hl 3 rfl) ?_
      refine lv_aload_n hxx hbb dX6_rank_3 rfl (lv_at hl 0 rfl) ?_
      refine zgX6_173 S hK hP 102 (by decide) zk_102 (v := nI nw) ((congrFun (hKK 102 (by decide)) _).trans hY25) dX6_rank_4 ?_
      refine zcmp_ge (tgt := 96) S (by omega) (by omega) dX6_rank_7 (by decide) (fun c_1 => ?_) (fun c_1 => ?_)
      · skip
        refine lv_iconst (v := (-1)) hxx hbb dX6_rank_96 (by decide) ?_
        exact hret _ _ _ _ _ _ dX6_rank_97 (rfl) hP hS (⟨Or.inr ⟨by rw [← hdd]; exact fun v hv => hno v (by omega), rfl⟩, hKK⟩)
      · skip
        refine lv_aload_n hxx hbb dX6_rank_10 rfl (lv_at hl 0 rfl) ?_
        refine lv_iload_n hxx hbb dX6_rank_11 rfl (lv_at hl 3 rfl) ?_
        refine lv_iload_n hxx hbb dX6_rank_12 rfl (lv_at hl 2 rfl) ?_
        refine ZI.callV S hK hP hS hB (kX6_distance l G A Y1 (nI x) ex nw sz lt tx len (hMD9.keep hKK) (by omega)) zwX6_176 zdX6_distance rfl ⟨Nat.le_trans (by decide) hfr, Nat.le_trans (by decide) hlo⟩ (by decide) (zcK6 zk_102) rfl rfl (Nat.le_of_ble_eq_true rfl) hl.1 dX6_rank_13 ⟨Nat.zero_le _, Nat.zero_le _⟩ (fun r_2 Y_3 H locs hq_4 hP hS => ?_)
        obtain ⟨hr9, hk9⟩ := hq_4
        have hKK := hKK.trans hk9
        have hxx9 : x < nw := by omega
        have hr9 := hr9.trans (dA_nat (by omega) hnw)
        have hr9 := hr9.trans (show _ = nI (dd x) by rw [hdd])
        have hd9 := hddle x
        subst hr9
        have hd9 := hd9 hxx9
        refine lv_istore (lv' := [(4, .int (nI (dd x))), (0, .ref (A 102)), (1, .int rr), (2, .int (nI ex)), (3, .int (nI x))]) hxx hbb dX6_rank_16 hl (by decide) rfl (fun ls hl => ?_)
        refine lv_iconst (v := nI 0) hxx hbb dX6_rank_18 (by decide) ?_
        refine lv_istore (lv' := [(5, .int (nI 0)), (4, .int (nI (dd x))), (0, .ref (A 102)), (1, .int rr), (2, .int (nI ex)), (3, .int (nI x))]) hxx hbb dX6_rank_19 hl (by decide) rfl (fun ls hl => ?_)
        refine lv_iconst (v := nI 0) hxx hbb dX6_rank_21 (by decide) ?_
        refine lv_istore (lv' := [(6, .int (nI 0)), (5, .int (nI 0)), (4, .int (nI (dd x))), (0, .ref (A 102)), (1, .int rr), (2, .int (nI ex)), (3, .int (nI x))]) hxx hbb dX6_rank_22 hl (by decide) rfl (fun ls hl => ?_)
        have L_24 : ∀ (N_24 : Nat) (z cc : Nat) (Y1 : zY) (hzn : z ≤ nw) (hKK : MKd Y Y1) (hc : cc = cN (rkN sz lt dd x) z) (hcl : cc ≤ z), nw - z < N_24 → ∀ (H : Heap) (locs : List Loc) (ls : Array Slot), va_P G.1 vwCl (zW G A Y1) H → va_S (zAd A) s.heap H locs → lv_has ls 8 [(0, .ref (A 102)), (1, .int rr), (2, .int (nI ex)), (3, .int (nI x)), (4, .int (nI (dd x))), (5, .int (nI cc)), (6, .int (nI z))] → W p l e R s m args below meth c H locs 0 0 Q (F0 m 24 ls []) := by
          intro N_24
          induction N_24 with
          | zero => intro z cc Y1 hzn hKK hc hcl hm; exact absurd hm (Nat.not_lt_zero _)
          | succ N_24 ih_24 =>
            intro z cc Y1 hzn hKK hc hcl hm_24 H locs ls hP hS hl
            refine lv_iload hxx hbb dX6_rank_24 (lv_at hl 6 rfl) ?_
            refine lv_aload_n hxx hbb dX6_rank_26 rfl (lv_at hl 0 rfl) ?_
            refine zgX6_173 S hK hP 102 (by decide) zk_102 (v := nI nw) ((congrFun (hKK 102 (by decide)) _).trans hY25) dX6_rank_27 ?_
            refine zcmp_ge (tgt := 82) S (by omega) (by omega) dX6_rank_30 (by decide) (fun c_5 => ?_) (fun c_5 => ?_)
            · skip
              refine lv_iload hxx hbb dX6_rank_82 (lv_at hl 5 rfl) ?_
              refine lv_iload_n hxx hbb dX6_rank_84 rfl (lv_at hl 1 rfl) ?_
              refine lv_icmp_ne (tgt := 90) hxx hbb dX6_rank_85 (by decide) (fun c_6 => ?_) (fun c_6 => ?_)
              · skip
                refine lv_iinc (v := nI (x + 1)) (lv' := [(3, .int (nI (x + 1))), (0, .ref (A 102)), (1, .int rr), (2, .int (nI ex)), (4, .int (nI (dd x))), (5, .int (nI cc)), (6, .int (nI z))]) hxx hbb dX6_rank_90 hl (k := 3) rfl (zinc1 _) (by decide) rfl (fun ls hl => ?_)
                refine lv_goto (tgt := 2) hxx hbb dX6_rank_93 (by decide) ?_
                exact ih_2 (x + 1) Y1 (by omega) hKK (fun v hv => (Nat.lt_succ_iff_lt_or_eq.mp hv).elim (hno v) (fun e => by rw [e, ← show z = nw by omega, ← hc]; exact c_6)) (by omega) _ _ _ hP hS (lv_sub hl [1, 2, 3, 0] rfl)
              · skip
                refine lv_iload_n hxx hbb dX6_rank_88 rfl (lv_at hl 3 rfl) ?_
                exact hret _ _ _ _ _ _ dX6_rank_89 (rfl) hP hS (⟨Or.inl ⟨x, by omega, by rw [← hdd, ← show z = nw by omega]; show nI (cN _ _) = _; rw [← hc]; exact c_6, by rw [← hdd]; exact hno, rfl⟩, hKK⟩)
            · skip
              refine lv_aload_n hxx hbb dX6_rank_33 rfl (lv_at hl 0 rfl) ?_
              refine lv_iload hxx hbb dX6_rank_34 (lv_at hl 6 rfl) ?_
              refine lv_iload_n hxx hbb dX6_rank_36 rfl (lv_at hl 2 rfl) ?_
              refine ZI.callV S hK hP hS hB (kX6_distance l G A Y1 (nI z) ex nw sz lt tx len (hMD9.keep hKK) (by omega)) zwX6_176 zdX6_distance rfl ⟨Nat.le_trans (by decide) hfr, Nat.le_trans (by decide) hlo⟩ (by decide) (zcK6 zk_102) rfl rfl (Nat.le_of_ble_eq_true rfl) hl.1 dX6_rank_37 ⟨Nat.zero_le _, Nat.zero_le _⟩ (fun r_7 Y_8 H locs hq_9 hP hS => ?_)
              obtain ⟨hr9, hk9⟩ := hq_9
              have hKK := hKK.trans hk9
              have hxx9 : z < nw := by omega
              have hr9 := hr9.trans (dA_nat (by omega) hnw)
              have hr9 := hr9.trans (show _ = nI (dd z) by rw [hdd])
              have hd9 := hddle z
              subst hr9
              have hd9 := hd9 hxx9
              refine lv_istore (lv' := [(7, .int (nI (dd z))), (0, .ref (A 102)), (1, .int rr), (2, .int (nI ex)), (3, .int (nI x)), (4, .int (nI (dd x))), (5, .int (nI cc)), (6, .int (nI z))]) hxx hbb dX6_rank_40 hl (by decide) rfl (fun ls hl => ?_)
              refine lv_iload hxx hbb dX6_rank_42 (lv_at hl 6 rfl) ?_
              refine lv_iload hxx hbb dX6_rank_44 (lv_at hl 0 rfl) ?_
              refine lv_iload hxx hbb dX6_rank_46 (lv_at hl 5 rfl) ?_
              refine zcmp_lt (tgt := 68) S (by omega) (by omega) dX6_rank_48 (by decide) (fun c_10 => ?_) (fun c_10 => ?_)
              · skip
                refine lv_iconst (v := nI 1) hxx hbb dX6_rank_68 (by decide) ?_
                refine lv_goto (tgt := 73) hxx hbb dX6_rank_69 (by decide) ?_
                refine zaddN S dX6_rank_73 ?_
                refine lv_istore (lv' := [(5, .int (nI (cc + 1))), (7, .int (nI (dd z))), (0, .ref (A 102)), (1, .int rr), (2, .int (nI ex)), (3, .int (nI x)), (4, .int (nI (dd x))), (6, .int (nI z))]) hxx hbb dX6_rank_74 hl (by decide) rfl (fun ls hl => ?_)
                refine lv_iinc (v := nI (z + 1)) (lv' := [(6, .int (nI (z + 1))), (5, .int (nI (cc + 1))), (7, .int (nI (dd z))), (0, .ref (A 102)), (1, .int rr), (2, .int (nI ex)), (3, .int (nI x)), (4, .int (nI (dd x)))]) hxx hbb dX6_rank_76 hl (k := 7) rfl (zinc1 _) (by decide) rfl (fun ls hl => ?_)
                refine lv_goto (tgt := 24) hxx hbb dX6_rank_79 (by decide) ?_
                exact ih_24 (z + 1) (cc + 1) Y_8 (by omega) hKK (by simp only [cN, ← hc]; rw [rkN_1 (by unfold rkB; first | exact Or.inl (by omega) | exact Or.inr ⟨by omega, ‹LX _ _ _ _›⟩)]) (by omega) (by omega) _ _ _ hP hS (lv_sub hl [3, 4, 5, 6, 7, 1, 0] rfl)
              · skip
                refine lv_iload hxx hbb dX6_rank_51 (lv_at hl 0 rfl) ?_
                refine lv_iload hxx hbb dX6_rank_53 (lv_at hl 5 rfl) ?_
                refine zcmp_ne (tgt := 72) S (by omega) (by omega) dX6_rank_55 (by decide) (fun c_11 => ?_) (fun c_11 => ?_)
                · skip
                  refine lv_iconst (v := nI 0) hxx hbb dX6_rank_72 (by decide) ?_
                  refine zaddN S dX6_rank_73 ?_
                  refine lv_istore (lv' := [(5, .int (nI (cc + 0))), (7, .int (nI (dd z))), (0, .ref (A 102)), (1, .int rr), (2, .int (nI ex)), (3, .int (nI x)), (4, .int (nI (dd x))), (6, .int (nI z))]) hxx hbb dX6_rank_74 hl (by decide) rfl (fun ls hl => ?_)
                  refine lv_iinc (v := nI (z + 1)) (lv' := [(6, .int (nI (z + 1))), (5, .int (nI (cc + 0))), (7, .int (nI (dd z))), (0, .ref (A 102)), (1, .int rr), (2, .int (nI ex)), (3, .int (nI x)), (4, .int (nI (dd x)))]) hxx hbb dX6_rank_76 hl (k := 7) rfl (zinc1 _) (by decide) rfl (fun ls hl => ?_)
                  refine lv_goto (tgt := 24) hxx hbb dX6_rank_79 (by decide) ?_
                  exact ih_24 (z + 1) (cc + 0) Y_8 (by omega) hKK (by simp only [cN, ← hc]; rw [rkN_0 (by unfold rkB; exact fun q => q.elim (fun q1 => by omega) (fun q1 => by first | exact absurd q1.2 ‹¬ LX _ _ _ _› | (have q2 := q1.1; omega)))]) (by omega) (by omega) _ _ _ hP hS (lv_sub hl [3, 4, 5, 6, 7, 1, 0] rfl)
                · skip
                  refine lv_aload_n hxx hbb dX6_rank_58 rfl (lv_at hl 1 rfl) ?_
                  refine lv_iload hxx hbb dX6_rank_59 (lv_at hl 7 rfl) ?_
                  refine lv_iload_n hxx hbb dX6_rank_61 rfl (lv_at hl 4 rfl) ?_
                  refine ZI.callV S hK hP hS hB (kX6_earlier l G A Y_8 z x nw sz lt tx len (hMD9.keep hKK) (by omega) (by omega)) zwX6_184 zdX6_earlier rfl ⟨Nat.le_trans (by decide) hfr, Nat.le_trans (by decide) hlo⟩ (by decide) (zcK6 zk_102) rfl rfl (Nat.le_of_ble_eq_true rfl) hl.1 dX6_rank_62 ⟨Nat.zero_le _, Nat.zero_le _⟩ (fun r_12 Y_13 H locs hq_14 hP hS => ?_)
                  rcases hq_14 with ⟨hb_15, hr9, hY9⟩ | ⟨hb_15, hr9, hY9⟩
                  · skip
                    subst hr9; rw [hY9] at hP
                    refine zif_eq (tgt := 72) S (by omega) dX6_rank_65 (by decide) (fun c_16 => ?_) (fun c_16 => ?_)
                    · skip
                      exact absurd c_16 (by decide)
                    · skip
                      refine lv_iconst (v := nI 1) hxx hbb dX6_rank_68 (by decide) ?_
                      refine lv_goto (tgt := 73) hxx hbb dX6_rank_69 (by decide) ?_
                      refine zaddN S dX6_rank_73 ?_
                      refine lv_istore (lv' := [(5, .int (nI (cc + 1))), (7, .int (nI (dd z))), (0, .ref (A 102)), (1, .int rr), (2, .int (nI ex)), (3, .int (nI x)), (4, .int (nI (dd x))), (6, .int (nI z))]) hxx hbb dX6_rank_74 hl (by decide) rfl (fun ls hl => ?_)
                      refine lv_iinc (v := nI (z + 1)) (lv' := [(6, .int (nI (z + 1))), (5, .int (nI (cc + 1))), (7, .int (nI (dd z))), (0, .ref (A 102)), (1, .int rr), (2, .int (nI ex)), (3, .int (nI x)), (4, .int (nI (dd x)))]) hxx hbb dX6_rank_76 hl (k := 7) rfl (zinc1 _) (by decide) rfl (fun ls hl => ?_)
                      refine lv_goto (tgt := 24) hxx hbb dX6_rank_79 (by decide) ?_
                      exact ih_24 (z + 1) (cc + 1) Y_8 (by omega) hKK (by simp only [cN, ← hc]; rw [rkN_1 (by unfold rkB; first | exact Or.inl (by omega) | exact Or.inr ⟨by omega, ‹LX _ _ _ _›⟩)]) (by omega) (by omega) _ _ _ hP hS (lv_sub hl [3, 4, 5, 6, 7, 1, 0] rfl)
                  · skip
                    subst hr9; rw [hY9] at hP
                    refine zif_eq (tgt := 72) S (by omega) dX6_rank_65 (by decide) (fun c_17 => ?_) (fun c_17 => ?_)
                    · skip
                      refine lv_iconst (v := nI 0) hxx hbb dX6_rank_72 (by decide) ?_
                      refine zaddN S dX6_rank_73 ?_
                      refine lv_istore (lv' := [(5, .int (nI (cc + 0))), (7, .int (nI (dd z))), (0, .ref (A 102)), (1, .int rr), (2, .int (nI ex)), (3, .int (nI x)), (4, .int (nI (dd x))), (6, .int (nI z))]) hxx hbb dX6_rank_74 hl (by decide) rfl (fun ls hl => ?_)
                      refine lv_iinc (v := nI (z + 1)) (lv' := [(6, .int (nI (z + 1))), (5, .int (nI (cc + 0))), (7, .int (nI (dd z))), (0, .ref (A 102)), (1, .int rr), (2, .int (nI ex)), (3, .int (nI x)), (4, .int (nI (dd x)))]) hxx hbb dX6_rank_76 hl (k := 7) rfl (zinc1 _) (by decide) rfl (fun ls hl => ?_)
                      refine lv_goto (tgt := 24) hxx hbb dX6_rank_79 (by decide) ?_
                      exact ih_24 (z + 1) (cc + 0) Y_8 (by omega) hKK (by simp only [cN, ← hc]; rw [rkN_0 (by unfold rkB; exact fun q => q.elim (fun q1 => by omega) (fun q1 => by first | exact absurd q1.2 ‹¬ LX _ _ _ _› | (have q2 := q1.1; omega)))]) (by omega) (by omega) _ _ _ hP hS (lv_sub hl [3, 4, 5, 6, 7, 1, 0] rfl)
                    · skip
                      exact absurd c_17 (by decide)
        exact L_24 (_ + 1) 0 0 Y_3 (by omega) hKK rfl (by omega) (Nat.lt_succ_self _) _ _ _ hP hS (lv_sub hl [3, 4, 5, 6, 2, 1, 0] rfl)
  exact L_2 (_ + 1) 0 Y (by omega) hKK (fun v hv => absurd hv (by omega)) (Nat.lt_succ_self _) _ _ _ hP hS (lv_sub hl [1, 2, 3, 0] rfl)

set_option maxHeartbeats 4000000 in
set_option maxRecDepth 100000 in
theorem kX6_add (l : Launch) (G : zG) (A : Nat → Nat) (Y : zY) (nw : Nat) (sz : Nat → Nat) (lt : Nat → Nat → Nat) (tx : Nat → Nat) (len : Nat) (hMD : MD Y nw sz lt tx len) : ZI l yX6_add cX6_add 2 (.int) 2 51 G A Y [.ref (A 102)] (fun r Y' => (r = -1 ∧ MKd Y Y' ∧ (len = 0 ∨ 12 < len ∨ nw = 20 ∨ ∃ w, w < nw ∧ dD (lt w) tx 0 (sz w) len = 0)) ∨ (r = nI nw ∧ 0 < len ∧ len ≤ 12 ∧ nw < 20 ∧ (∀ w, w < nw → dD (lt w) tx 0 (sz w) len ≠ 0) ∧ MAd Y Y' nw tx len)) := by
  refine ZI.enter (by decide) (Nat.le_of_ble_eq_true rfl) ?_
  intro p e s m args below meth c R Q hxx hbb S hK hfr hlo hret H ls hP hS hl
  have hB : ∀ q, zAd A q → zAd A q := fun _ h => h
  have hl : lv_has ls 2 [(0, .ref (A 102))] := hl
  have S : CallFix p m c cX6_add 2 s args wsL_law RX6 := S
  have hMD9 := hMD
  obtain ⟨hnw, hlen, hsz, htx, hY25, hY19, hYt, hYw⟩ := hMD
  have hKK : MKd Y Y := MKd.rf
  obtain ⟨dd, hdd⟩ : ∃ dd : Nat → Nat, dd = fun w => dD (lt w) tx 0 (sz w) len := ⟨_, rfl⟩
  have hddle : ∀ w, w < nw → dd w ≤ 100 := fun w hw => by have h1 := dD_le (a := lt w) (b := tx) (ex := 0) _ (sz w) len rfl; have h2 := hsz w hw; rw [hdd]; show dD _ _ _ _ _ ≤ 100; omega
  refine lv_aload_n hxx hbb dX6_add_0 rfl (lv_at hl 0 rfl) ?_
  refine zgX6_135 S hK hP 102 (by decide) zk_102 (v := nI len) (hY19) dX6_add_1 ?_
  refine zif_eq (tgt := 25) S (by omega) dX6_add_4 (by decide) (fun c_1 => ?_) (fun c_1 => ?_)
  · skip
    refine lv_iconst (v := (-1)) hxx hbb dX6_add_25 (by decide) ?_
    exact hret _ _ _ _ _ _ dX6_add_26 (rfl) hP hS (Or.inl ⟨rfl, MKd.rf, by omega⟩)
  · skip
    refine lv_aload_n hxx hbb dX6_add_7 rfl (lv_at hl 0 rfl) ?_
    refine zgX6_135 S hK hP 102 (by decide) zk_102 (v := nI len) (hY19) dX6_add_8 ?_
    refine lv_bipush (v := nI 12) hxx hbb dX6_add_11 (by decide) ?_
    refine zcmp_gt (tgt := 25) S (by omega) (by omega) dX6_add_13 (by decide) (fun c_2 => ?_) (fun c_2 => ?_)
    · skip
      refine lv_iconst (v := (-1)) hxx hbb dX6_add_25 (by decide) ?_
      exact hret _ _ _ _ _ _ dX6_add_26 (rfl) hP hS (Or.inl ⟨rfl, MKd.rf, by omega⟩)
    · skip
      refine lv_aload_n hxx hbb dX6_add_16 rfl (lv_at hl 0 rfl) ?_
      refine zgX6_173 S hK hP 102 (by decide) zk_102 (v := nI nw) (hY25) dX6_add_17 ?_
      refine lv_bipush (v := nI 20) hxx hbb dX6_add_20 (by decide) ?_
      refine zcmp_ne (tgt := 27) S (by omega) (by omega) dX6_add_22 (by decide) (fun c_3 => ?_) (fun c_3 => ?_)
      · skip
        refine lv_iconst (v := nI 0) hxx hbb dX6_add_27 (by decide) ?_
        refine lv_istore_n (lv' := [(1, .int (nI 0)), (0, .ref (A 102))]) hxx hbb dX6_add_28 rfl hl (by decide) rfl (fun ls hl => ?_)
        have L_29 : ∀ (N_29 : Nat) (x : Nat) (Y1 : zY) (hxn : x ≤ nw) (hKK : MKd Y Y1) (hno : ∀ v, v < x → dd v ≠ 0), nw - x < N_29 → ∀ (H : Heap) (locs : List Loc) (ls : Array Slot), va_P G.1 vwCl (zW G A Y1) H → va_S (zAd A) s.heap H locs → lv_has ls 2 [(0, .ref (A 102)), (1, .int (nI x))] → W p l e R s m args below meth c H locs 0 0 Q (F0 m 29 ls []) := by
          intro N_29
          induction N_29 with
          | zero => intro x Y1 hxn hKK hno hm; exact absurd hm (Nat.not_lt_zero _)
          | succ N_29 ih_29 =>
            intro x Y1 hxn hKK hno hm_29 H locs ls hP hS hl
            refine lv_iload_n hxx hbb dX6_add_29 rfl (lv_at hl 1 rfl) ?_
            refine lv_aload_n hxx hbb dX6_add_30 rfl (lv_at hl 0 rfl) ?_
            refine zgX6_173 S hK hP 102 (by decide) zk_102 (v := nI nw) ((congrFun (hKK 102 (by decide)) _).trans hY25) dX6_add_31 ?_
            refine zcmp_ge (tgt := 54) S (by omega) (by omega) dX6_add_34 (by decide) (fun c_4 => ?_) (fun c_4 => ?_)
            · skip
              refine lv_aload_n hxx hbb dX6_add_54 rfl (lv_at hl 0 rfl) ?_
              refine zgX6_59 S hK hP 102 (by decide) zk_102 dX6_add_55 ?_
              refine lv_aload_n hxx hbb dX6_add_58 rfl (lv_at hl 0 rfl) ?_
              refine zgX6_173 S hK hP 102 (by decide) zk_102 (v := nI nw) ((congrFun (hKK 102 (by decide)) _).trans hY25) dX6_add_59 ?_
              refine lv_aload_n hxx hbb dX6_add_62 rfl (lv_at hl 0 rfl) ?_
              refine zgX6_135 S hK hP 102 (by decide) zk_102 (v := nI len) ((congrFun (hKK 102 (by decide)) _).trans hY19) dX6_add_63 ?_
              refine zastN S hK hP hS hB 114 20 (by decide) zk_114 zl_114 (by omega) dX6_add_66 (fun H locs hP hS => ?_)
              refine lv_iconst (v := nI 0) hxx hbb dX6_add_67 (by decide) ?_
              refine lv_istore_n (lv' := [(1, .int (nI 0)), (0, .ref (A 102))]) hxx hbb dX6_add_68 rfl hl (by decide) rfl (fun ls hl => ?_)
              have L_69 : ∀ (N_69 : Nat) (k : Nat) (Y2 : zY) (hk : k ≤ len) (hA : MA2 Y Y2 nw tx len k), len - k < N_69 → ∀ (H : Heap) (locs : List Loc) (ls : Array Slot), va_P G.1 vwCl (zW G A Y2) H → va_S (zAd A) s.heap H locs → lv_has ls 2 [(0, .ref (A 102)), (1, .int (nI k))] → W p l e R s m args below meth c H locs 0 0 Q (F0 m 69 ls []) := by
                intro N_69
                induction N_69 with
                | zero => intro k Y2 hk hA hm; exact absurd hm (Nat.not_lt_zero _)
                | succ N_69 ih_69 =>
                  intro k Y2 hk hA hm_69 H locs ls hP hS hl
                  refine lv_iload_n hxx hbb dX6_add_69 rfl (lv_at hl 1 rfl) ?_
                  refine lv_aload_n hxx hbb dX6_add_70 rfl (lv_at hl 0 rfl) ?_
                  refine zgX6_135 S hK hP 102 (by decide) zk_102 (v := nI len) ((congrFun (hA.1 102 (by decide) (by decide) (by decide)) _).trans hY19) dX6_add_71 ?_
                  refine zcmp_ge (tgt := 103) S (by omega) (by omega) dX6_add_74 (by decide) (fun c_5 => ?_) (fun c_5 => ?_)
                  · skip
                    refine lv_aload_n hxx hbb dX6_add_103 rfl (lv_at hl 0 rfl) ?_
                    refine lv_dup hxx hbb dX6_add_104 rfl ?_
                    refine zgX6_173 S hK hP 102 (by decide) zk_102 (v := nI nw) ((congrFun (hA.1 102 (by decide) (by decide) (by decide)) _).trans hY25) dX6_add_105 ?_
                    refine lv_iconst (v := nI 1) hxx hbb dX6_add_108 (by decide) ?_
                    refine zaddN S dX6_add_109 ?_
                    refine zpX6_173 S hK hP hS hB 102 (by decide) zk_102 dX6_add_110 (fun H locs hP hS => ?_)
                    refine lv_aload_n hxx hbb dX6_add_113 rfl (lv_at hl 0 rfl) ?_
                    refine zgX6_173 S hK hP 102 (by decide) zk_102 (v := nI (nw + 1)) (zU_eq) dX6_add_114 ?_
                    refine lv_iconst (v := nI 1) hxx hbb dX6_add_117 (by decide) ?_
                    refine zsubN S (by omega) dX6_add_118 ?_
                    have h9 : k = len := by omega
                    rw [h9] at hA
                    exact hret _ _ _ _ _ _ dX6_add_119 (rfl) hP hS (Or.inr ⟨by rw [Nat.add_sub_cancel], by omega, by omega, by omega, fun w hw => (by have h9 := hno w (by omega); rw [hdd] at h9; exact h9), hA.fin⟩)
                  · skip
                    refine lv_aload_n hxx hbb dX6_add_77 rfl (lv_at hl 0 rfl) ?_
                    refine zgX6_62 S hK hP 102 (by decide) zk_102 dX6_add_78 ?_
                    refine lv_bipush (v := nI 12) hxx hbb dX6_add_81 (by decide) ?_
                    refine lv_aload_n hxx hbb dX6_add_83 rfl (lv_at hl 0 rfl) ?_
                    refine zgX6_173 S hK hP 102 (by decide) zk_102 (v := nI nw) ((congrFun (hA.1 102 (by decide) (by decide) (by decide)) _).trans hY25) dX6_add_84 ?_
                    refine zmulN S dX6_add_87 ?_
                    refine lv_iload_n hxx hbb dX6_add_88 rfl (lv_at hl 1 rfl) ?_
                    refine zaddN S dX6_add_89 ?_
                    refine lv_aload_n hxx hbb dX6_add_90 rfl (lv_at hl 0 rfl) ?_
                    refine zgX6_47 S hK hP 102 (by decide) zk_102 dX6_add_91 ?_
                    refine lv_iload_n hxx hbb dX6_add_94 rfl (lv_at hl 1 rfl) ?_
                    refine zaldN S hK hP 112 24 (by decide) zk_112 zl_112 (by omega) (v := nI (tx k)) ((congrFun (hA.1 112 (by decide) (by decide) (by decide)) _).trans (hYt _ (by omega))) dX6_add_95 ?_
                    refine zastN S hK hP hS hB 115 240 (by decide) zk_115 zl_115 (by omega) dX6_add_96 (fun H locs hP hS => ?_)
                    refine lv_iinc (v := nI (k + 1)) (lv' := [(1, .int (nI (k + 1))), (0, .ref (A 102))]) hxx hbb dX6_add_97 hl (k := 1) rfl (zinc1 _) (by decide) rfl (fun ls hl => ?_)
                    refine lv_goto (tgt := 69) hxx hbb dX6_add_100 (by decide) ?_
                    exact ih_69 (k + 1) (zU Y2 115 (12 * nw + k) (nI (tx k))) (by omega) hA.put (by omega) _ _ _ hP hS (lv_sub hl [1, 0] rfl)
              exact L_69 (_ + 1) 0 (zU Y1 114 nw (nI len)) (by omega) (MA2.mk hKK) (Nat.lt_succ_self _) _ _ _ hP hS (lv_sub hl [1, 0] rfl)
            · skip
              refine lv_aload_n hxx hbb dX6_add_37 rfl (lv_at hl 0 rfl) ?_
              refine lv_iload_n hxx hbb dX6_add_38 rfl (lv_at hl 1 rfl) ?_
              refine lv_iconst (v := nI 0) hxx hbb dX6_add_39 (by decide) ?_
              refine ZI.callV S hK hP hS hB (kX6_distance l G A Y1 (nI x) 0 nw sz lt tx len (hMD9.keep hKK) (by omega)) zwX6_176 zdX6_distance rfl ⟨Nat.le_trans (by decide) hfr, Nat.le_trans (by decide) hlo⟩ (by decide) (zcK6 zk_102) rfl rfl (Nat.le_of_ble_eq_true rfl) hl.1 dX6_add_40 ⟨Nat.zero_le _, Nat.zero_le _⟩ (fun r_6 Y_7 H locs hq_8 hP hS => ?_)
              obtain ⟨hr9, hk9⟩ := hq_8
              have hKK := hKK.trans hk9
              have hxx9 : x < nw := by omega
              have hr9 := hr9.trans (dA_nat (by omega) hnw)
              have hr9 := hr9.trans (show _ = nI (dd x) by rw [hdd])
              have hd9 := hddle x
              subst hr9
              have hd9 := hd9 hxx9
              refine zif_ne (tgt := 48) S (by omega) dX6_add_43 (by decide) (fun c_9 => ?_) (fun c_9 => ?_)
              · skip
                refine lv_iinc (v := nI (x + 1)) (lv' := [(1, .int (nI (x + 1))), (0, .ref (A 102))]) hxx hbb dX6_add_48 hl (k := 1) rfl (zinc1 _) (by decide) rfl (fun ls hl => ?_)
                refine lv_goto (tgt := 29) hxx hbb dX6_add_51 (by decide) ?_
                exact ih_29 (x + 1) Y_7 (by omega) hKK (fun v hv => (Nat.lt_succ_iff_lt_or_eq.mp hv).elim (hno v) (fun e => by rw [e]; exact c_9)) (by omega) _ _ _ hP hS (lv_sub hl [1, 0] rfl)
              · skip
                refine lv_iconst (v := (-1)) hxx hbb dX6_add_46 (by decide) ?_
                exact hret _ _ _ _ _ _ dX6_add_47 (rfl) hP hS (Or.inl ⟨rfl, hKK, Or.inr (Or.inr (Or.inr ⟨x, by omega, by have h9 := c_9; rw [hdd] at h9; exact h9⟩))⟩)
        exact L_29 (_ + 1) 0 Y (by omega) hKK (fun v hv => absurd hv (by omega)) (Nat.lt_succ_self _) _ _ _ hP hS (lv_sub hl [1, 0] rfl)
      · skip
        refine lv_iconst (v := (-1)) hxx hbb dX6_add_25 (by decide) ?_
        exact hret _ _ _ _ _ _ dX6_add_26 (rfl) hP hS (Or.inl ⟨rfl, MKd.rf, by omega⟩)
