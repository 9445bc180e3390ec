theorem dD_p0 {a b : Nat → Nat} {ex : Nat} : ∀ p, p ≤ 100 → dD a b ex p 0 = p
  | 0 => fun _ => by rw [dD_eq]; simp [d4, d3, d2, d1, d0]
  | p + 1 => fun h => by
    have ih := dD_p0 (a := a) (b := b) (ex := ex) p (by omega)
    have e0 : d0 (p + 1) 0 = 1000 := by unfold d0; exact if_neg (by omega)
    have e1 : d1 (dD a b ex) (p + 1) 0 = p + 1 := by unfold d1; rw [if_pos (by omega), Nat.add_sub_cancel, ih, e0, if_pos (by omega)]
    have e2 : d2 (dD a b ex) (p + 1) 0 = p + 1 := by unfold d2; rw [if_neg (by omega), e1]
    have e3 : d3 a b (dD a b ex) (p + 1) 0 = p + 1 := by unfold d3; rw [if_neg (by omega), e2]
    rw [dD_eq]; unfold d4; rw [if_neg (by omega), e3]
theorem dD_0q {a b : Nat → Nat} {ex : Nat} : ∀ q, q ≤ 100 → dD a b ex 0 q = q
  | 0 => fun _ => by rw [dD_eq]; simp [d4, d3, d2, d1, d0]
  | q + 1 => fun h => by
    have ih := dD_0q (a := a) (b := b) (ex := ex) q (by omega)
    have e0 : d0 0 (q + 1) = 1000 := by unfold d0; exact if_neg (by omega)
    have e1 : d1 (dD a b ex) 0 (q + 1) = 1000 := by unfold d1; rw [if_neg (by omega), e0]
    have e2 : d2 (dD a b ex) 0 (q + 1) = q + 1 := by unfold d2; rw [if_pos (by omega), Nat.add_sub_cancel, ih, e1, if_pos (by omega)]
    have e3 : d3 a b (dD a b ex) 0 (q + 1) = q + 1 := by unfold d3; rw [if_neg (by omega), e2]
    rw [dD_eq]; unfold d4; rw [if_neg (by omega), e3]
theorem d3_min {a b : Nat → Nat} {D : Nat → Nat → Nat} {p q : Nat} (hp : 0 < p) (hq : 0 < q) (h1 : D (p - 1) q ≤ 100) (h2 : D p (q - 1) ≤ 100) : d3 a b D p q = min (min (D (p - 1) q) (D p (q - 1)) + 1) (D (p - 1) (q - 1) + dE a b p q) := by
  have e0 : d0 p q = 1000 := by unfold d0; exact if_neg (by omega)
  have e1 : d1 D p q = D (p - 1) q + 1 := by unfold d1; rw [if_pos hp, e0, if_pos (by omega)]
  have e2 : d2 D p q = min (D (p - 1) q) (D p (q - 1)) + 1 := by unfold d2; rw [if_pos hq, e1]; split <;> omega
  unfold d3; rw [if_pos ⟨hp, hq⟩, e2]; split <;> omega
theorem dLS_no {a b : Nat → Nat} {ex p q e : Nat} (hp : 0 < p) (hq : 0 < q) (hpq : p + q ≤ 90) (he : dE a b p q = e) (hno : ¬ (ex ≠ 0 ∧ 1 < p ∧ 1 < q ∧ a (p - 1) = b (q - 2) ∧ a (p - 2) = b (q - 1))) : min (min (dD a b ex (p - 1) q) (dD a b ex p (q - 1)) + 1) (dD a b ex (p - 1) (q - 1) + e) = dD a b ex p q := by
  have h1 := dD_le (a := a) (b := b) (ex := ex) _ (p - 1) q rfl
  have h2 := dD_le (a := a) (b := b) (ex := ex) _ p (q - 1) rfl
  rw [dD_eq (p := p) (q := q)]; unfold d4
  rw [if_neg hno, d3_min hp hq (by omega) (by omega), he]
theorem dLS_ex {a b : Nat → Nat} {ex p q e : Nat} (hp : 0 < p) (hq : 0 < q) (hpq : p + q ≤ 90) (he : dE a b p q = e) (hyes : ex ≠ 0 ∧ 1 < p ∧ 1 < q ∧ a (p - 1) = b (q - 2) ∧ a (p - 2) = b (q - 1)) : min (min (min (dD a b ex (p - 1) q) (dD a b ex p (q - 1)) + 1) (dD a b ex (p - 1) (q - 1) + e)) (dD a b ex (p - 2) (q - 2) + 1) = dD a b ex p q := by
  have h1 := dD_le (a := a) (b := b) (ex := ex) _ (p - 1) q rfl
  have h2 := dD_le (a := a) (b := b) (ex := ex) _ p (q - 1) rfl
  rw [dD_eq (p := p) (q := q)]; unfold d4
  rw [if_pos hyes, d3_min hp hq (by omega) (by omega), he]; split <;> omega
theorem dD_zero {a b : Nat → Nat} : ∀ n p q, p + q = n → n ≤ 90 → (dD a b 0 p q = 0 ↔ (p = q ∧ ∀ i, i < p → a i = b i)) := by
  intro n
  induction n using Nat.strongRecOn with
  | ind n ih =>
    intro p q h h9
    by_cases hp : p = 0
    · subst hp; rw [dD_0q q (by omega)]
      exact ⟨fun e => ⟨e.symm, fun i hi => absurd hi (Nat.not_lt_zero _)⟩, fun e => e.1.symm⟩
    by_cases hq : q = 0
    · subst hq; rw [dD_p0 p (by omega)]
      exact ⟨fun e => absurd e hp, fun e => e.1⟩
    have h3 := dLS_no (a := a) (b := b) (ex := 0) (p := p) (q := q) (e := dE a b p q) (by omega) (by omega) (by omega) rfl (by omega)
    have h4 := ih (p - 1 + (q - 1)) (by omega) (p - 1) (q - 1) rfl (by omega)
    rw [← h3]
    have hE : dE a b p q = 0 ↔ a (p - 1) = b (q - 1) := by unfold dE; split <;> simp_all
    constructor
    · intro e
      have e1 : dD a b 0 (p - 1) (q - 1) = 0 := by omega
      have e2 : dE a b p q = 0 := by omega
      obtain ⟨g1, g2⟩ := h4.mp e1
      have g3 := hE.mp e2
      refine ⟨by omega, fun i hi => ?_⟩
      by_cases ei : i = p - 1
      · subst ei; rw [g3]; congr 1; omega
      · exact g2 i (by omega)
    · rintro ⟨g1, g2⟩
      subst g1
      have e1 := h4.mpr ⟨rfl, fun i hi => g2 i (by omega)⟩
      have e2 := hE.mpr (g2 _ (by omega))
      omega
/-- what the class holds of dictionary and text -/
def XD (Y : zY) (nw : Nat) (sz : Nat → Nat) (lt : Nat → Nat → Nat) (tx : Nat → Nat) (len : Nat) : Prop := nw ≤ 20 ∧ Y 45 1 = nI nw ∧ (∀ w, w < nw → LT Y (62 + 2 * w) (sz w) (lt w) ∧ 1 ≤ sz w ∧ sz w ≤ 12) ∧ LT Y 16 len tx
/-- only distances and steps may have changed -/
def KXd (Y Z : zY) : Prop := ∀ q, q ≠ 47 → (q < 49 ∨ 61 < q) → Z q = Y q
theorem KXd.rf {Y : zY} : KXd Y Y := fun _ _ _ => rfl
theorem KXd.trans {X Y Z : zY} (h : KXd X Y) (g : KXd Y Z) : KXd X Z := fun q a b => (g q a b).trans (h q a b)
theorem KXd.stp {X Y : zY} {k j : Nat} {v : Int32} (h : KXd X Y) (hk : k < 13) : KXd X (zU Y (49 + k) j v) := fun q a b => (zU_row (by omega)).trans (h q a b)
theorem KXd.dis {X Y : zY} {j : Nat} {v : Int32} (h : KXd X Y) : KXd X (zU Y 47 j v) := fun q a b => (zU_row a).trans (h q a b)
theorem LT.keep {Y Z : zY} {q n : Nat} {t : Nat → Nat} (h : LT Y q n t) (h1 : Z q = Y q) (h2 : Z (q + 1) = Y (q + 1)) : LT Z q n t := by
  unfold LT at *; rw [h1, h2]; exact h
theorem XD.keep {Y Z : zY} {nw : Nat} {sz : Nat → Nat} {lt : Nat → Nat → Nat} {tx : Nat → Nat} {len : Nat} (h : XD Y nw sz lt tx len) (k : KXd Y Z) : XD Z nw sz lt tx len := ⟨h.1, (congrFun (k 45 (by omega) (by omega)) 1).trans h.2.1, fun w hw => ⟨(h.2.2.1 w hw).1.keep (k _ (by omega) (by omega)) (k _ (by omega) (by omega)), (h.2.2.1 w hw).2⟩, h.2.2.2.keep (k _ (by omega) (by omega)) (k _ (by omega) (by omega))⟩
/-- the steps' cells before (p, q) -/
def SXd (Y : zY) (D : Nat → Nat → Nat) (len p q : Nat) : Prop := ∀ a b, b ≤ len → (a < p ∨ a = p ∧ b < q) → Y (49 + a) b = nI (D a b)
theorem SXd.put {Y : zY} {D : Nat → Nat → Nat} {len p q : Nat} (h : SXd Y D len p q) : SXd (zU Y (49 + p) q (nI (D p q))) D len p (q + 1) := by
  intro a b h1 h2
  by_cases e : a = p
  · subst e
    by_cases e2 : b = q
    · subst e2; exact zU_eq
    · exact (zU_nj e2).trans (h a b h1 (by omega))
  · exact (zU_np (by omega)).trans (h a b h1 (by omega))
theorem SXd.next {Y : zY} {D : Nat → Nat → Nat} {len p q : Nat} (h : SXd Y D len p q) (hq : len < q) : SXd Y D len (p + 1) 0 := fun a b h1 h2 => h a b h1 (by omega)
theorem CW_neg {a b : Nat → Nat} {n m : Nat} {r : Int32} (h : CW a n b m r) (h2 : r < 0) : LX a n b m := by
  rcases h with ⟨h3, -⟩ | ⟨-, h3⟩ | ⟨h3, -⟩
  · subst h3; exact absurd h2 (by decide)
  · exact h3
  · exact absurd h2 h3
theorem CW_nneg {a b : Nat → Nat} {n m : Nat} {r : Int32} (h : CW a n b m r) (h2 : ¬ r < 0) : ¬ LX a n b m := by
  rcases h with ⟨h3, h4, h5⟩ | ⟨h3, -⟩ | ⟨-, -, h3, -⟩
  · subst h4
    intro z
    have := (LX_end (a := a) (b := b) (k := n) (Nat.le_refl _) (Nat.le_refl _) h5 (Or.inl rfl)).mp z
    omega
  · exact absurd h3 h2
  · exact h3
theorem CW_eq {a b : Nat → Nat} {n m : Nat} {r : Int32} (h : CW a n b m r) : r = 0 ↔ (n = m ∧ ∀ i, i < n → a i = b i) := by
  rcases h with ⟨h3, h4, h5⟩ | ⟨h3, h4⟩ | ⟨h3, h4, h5, h6⟩
  · exact ⟨fun _ => ⟨h4, h5⟩, fun _ => h3⟩
  · refine ⟨fun e => by subst e; exact absurd h3 (by decide), fun e => ?_⟩
    obtain ⟨rfl, e2⟩ := e
    have := (LX_end (a := a) (b := b) (k := n) (Nat.le_refl _) (Nat.le_refl _) e2 (Or.inl rfl)).mp h4
    omega
  · exact ⟨fun e => absurd e h4, fun e => absurd e h6⟩
set_option maxHeartbeats 4000000 in
set_option maxRecDepth 100000 in
theorem kX1_areExchanged (l : Launch) (G : zG) (A : Nat → Nat) (Y : zY) (x pp qq : Nat) (nw : Nat) (sz : Nat → Nat) (lt : Nat → Nat → Nat) (tx : Nat → Nat) (len : Nat) (hXD : XD Y nw sz lt tx len) (hx : x < nw) (hp : 2 ≤ pp ∧ pp ≤ sz x) (hq : 2 ≤ qq ∧ qq ≤ len) : ZI l yX1_areExchanged cX1_areExchanged 4 (.boolean) 1 21 G A Y [.ref (A (62 + 2 * x)), .ref (A 16), .int (nI pp), .int (nI qq)] (fun r Y' => ((lt x (pp - 1) = tx (qq - 2) ∧ lt x (pp - 2) = tx (qq - 1)) ∧ r = nI 1 ∧ Y' = Y) ∨ (¬ (lt x (pp - 1) = tx (qq - 2) ∧ lt x (pp - 2) = tx (qq - 1)) ∧ r = nI 0 ∧ Y' = Y)) := by
  refine ZI.enter (by decide) (Nat.le_of_ble_eq_true rfl) ?_
  intro p e s m args below meth c R Q hxx hbb S hK hfr hlo hret H ls hP hS hl
  have hB : ∀ q, zAd A q → zAd A q := fun _ h => h
  have hl : lv_has ls 4 [(0, .ref (A (62 + 2 * x))), (1, .ref (A 16)), (2, .int (nI pp)), (3, .int (nI qq))] := hl
  have S : CallFix p m c cX1_areExchanged 4 s args wsL_law RX1 := S
  have hXD9 := hXD
  obtain ⟨hnw, hY45, hW, hL16⟩ := hXD
  have hlen := hL16.1
  have hKK : KXd Y Y := KXd.rf
  have hwx := hW x hx
  refine lv_aload_n hxx hbb dX1_areExchanged_0 rfl (lv_at hl 0 rfl) ?_
  refine lv_iload_n hxx hbb dX1_areExchanged_1 rfl (lv_at hl 2 rfl) ?_
  refine lv_iconst (v := nI 2) hxx hbb dX1_areExchanged_2 (by decide) ?_
  refine zsubN S (by omega) dX1_areExchanged_3 ?_
  refine ZI.callVN S hK hP hS hB (kX3_letterAt l G A Y (62 + 2 * x) (sz x) (pp - 2) ((lt x) (pp - 2)) (zLP_word (by omega)) (hXD9.2.2.1 x (by omega)).1.2.1 (hXD9.2.2.1 x (by omega)).1.1 (by omega) ((hXD9.2.2.1 x (by omega)).1.2.2.1 _ (by omega)) (by have := (hXD9.2.2.1 x (by omega)).1.2.2.2 (pp - 2) (by omega); omega)) (znX1_57) zwX1_57 zdX3_letterAt rfl ⟨Nat.le_trans (by decide) hfr, Nat.le_trans (by decide) hlo⟩ (by omega) (zcK3 (zk_let (by omega))) rfl rfl (Nat.le_of_ble_eq_true rfl) hl.1 dX1_areExchanged_4 ⟨Nat.zero_le _, Nat.zero_le _⟩ (fun r_1 Y_2 H locs hq_3 hP hS => ?_)
  obtain ⟨hr9, hY9⟩ := hq_3
  subst hr9; rw [hY9] at hP
  have hlt_4 := (hXD9.2.2.1 x (by omega)).1.2.2.2 (pp - 2) (by omega)
  refine lv_aload_n hxx hbb dX1_areExchanged_7 rfl (lv_at hl 1 rfl) ?_
  refine lv_iload_n hxx hbb dX1_areExchanged_8 rfl (lv_at hl 3 rfl) ?_
  refine lv_iconst (v := nI 1) hxx hbb dX1_areExchanged_9 (by decide) ?_
  refine zsubN S (by omega) dX1_areExchanged_10 ?_
  refine ZI.callVN S hK hP hS hB (kX3_letterAt l G A Y 16 len (qq - 1) (tx (qq - 1)) zLP_text hXD9.2.2.2.2.1 hXD9.2.2.2.1 (by omega) (hXD9.2.2.2.2.2.1 _ (by omega)) (by have := hXD9.2.2.2.2.2.2 (qq - 1) (by omega); omega)) (znX1_57) zwX1_57 zdX3_letterAt rfl ⟨Nat.le_trans (by decide) hfr, Nat.le_trans (by decide) hlo⟩ (by decide) (zcK3 zk_16) rfl rfl (Nat.le_of_ble_eq_true rfl) hl.1 dX1_areExchanged_11 ⟨Nat.zero_le _, Nat.zero_le _⟩ (fun r_5 Y_6 H locs hq_7 hP hS => ?_)
  obtain ⟨hr9, hY9⟩ := hq_7
  subst hr9; rw [hY9] at hP
  have hlt_8 := hXD9.2.2.2.2.2.2 (qq - 1) (by omega)
  refine zcmp_ne (tgt := 38) S (by omega) (by omega) dX1_areExchanged_14 (by decide) (fun c_9 => ?_) (fun c_9 => ?_)
  · skip
    refine lv_iconst (v := nI 0) hxx hbb dX1_areExchanged_38 (by decide) ?_
    exact hret _ _ _ _ _ _ dX1_areExchanged_39 (by first | rfl | decide) hP hS (Or.inr ⟨by omega, rfl, rfl⟩)
  · skip
    refine lv_aload_n hxx hbb dX1_areExchanged_17 rfl (lv_at hl 0 rfl) ?_
    refine lv_iload_n hxx hbb dX1_areExchanged_18 rfl (lv_at hl 2 rfl) ?_
    refine lv_iconst (v := nI 1) hxx hbb dX1_areExchanged_19 (by decide) ?_
    refine zsubN S (by omega) dX1_areExchanged_20 ?_
    refine ZI.callVN S hK hP hS hB (kX3_letterAt l G A Y (62 + 2 * x) (sz x) (pp - 1) ((lt x) (pp - 1)) (zLP_word (by omega)) (hXD9.2.2.1 x (by omega)).1.2.1 (hXD9.2.2.1 x (by omega)).1.1 (by omega) ((hXD9.2.2.1 x (by omega)).1.2.2.1 _ (by omega)) (by have := (hXD9.2.2.1 x (by omega)).1.2.2.2 (pp - 1) (by omega); omega)) (znX1_57) zwX1_57 zdX3_letterAt rfl ⟨Nat.le_trans (by decide) hfr, Nat.le_trans (by decide) hlo⟩ (by omega) (zcK3 (zk_let (by omega))) rfl rfl (Nat.le_of_ble_eq_true rfl) hl.1 dX1_areExchanged_21 ⟨Nat.zero_le _, Nat.zero_le _⟩ (fun r_10 Y_11 H locs hq_12 hP hS => ?_)
    obtain ⟨hr9, hY9⟩ := hq_12
    subst hr9; rw [hY9] at hP
    have hlt_13 := (hXD9.2.2.1 x (by omega)).1.2.2.2 (pp - 1) (by omega)
    refine lv_aload_n hxx hbb dX1_areExchanged_24 rfl (lv_at hl 1 rfl) ?_
    refine lv_iload_n hxx hbb dX1_areExchanged_25 rfl (lv_at hl 3 rfl) ?_
    refine lv_iconst (v := nI 2) hxx hbb dX1_areExchanged_26 (by decide) ?_
    refine zsubN S (by omega) dX1_areExchanged_27 ?_
    refine ZI.callVN S hK hP hS hB (kX3_letterAt l G A Y 16 len (qq - 2) (tx (qq - 2)) zLP_text hXD9.2.2.2.2.1 hXD9.2.2.2.1 (by omega) (hXD9.2.2.2.2.2.1 _ (by omega)) (by have := hXD9.2.2.2.2.2.2 (qq - 2) (by omega); omega)) (znX1_57) zwX1_57 zdX3_letterAt rfl ⟨Nat.le_trans (by decide) hfr, Nat.le_trans (by decide) hlo⟩ (by decide) (zcK3 zk_16) rfl rfl (Nat.le_of_ble_eq_true rfl) hl.1 dX1_areExchanged_28 ⟨Nat.zero_le _, Nat.zero_le _⟩ (fun r_14 Y_15 H locs hq_16 hP hS => ?_)
    obtain ⟨hr9, hY9⟩ := hq_16
    subst hr9; rw [hY9] at hP
    have hlt_17 := hXD9.2.2.2.2.2.2 (qq - 2) (by omega)
    refine zcmp_ne (tgt := 38) S (by omega) (by omega) dX1_areExchanged_31 (by decide) (fun c_18 => ?_) (fun c_18 => ?_)
    · skip
      refine lv_iconst (v := nI 0) hxx hbb dX1_areExchanged_38 (by decide) ?_
      exact hret _ _ _ _ _ _ dX1_areExchanged_39 (by first | rfl | decide) hP hS (Or.inr ⟨by omega, rfl, rfl⟩)
    · skip
      refine lv_iconst (v := nI 1) hxx hbb dX1_areExchanged_34 (by decide) ?_
      refine lv_goto (tgt := 39) hxx hbb dX1_areExchanged_35 (by decide) ?_
      exact hret _ _ _ _ _ _ dX1_areExchanged_39 (by first | rfl | decide) hP hS (Or.inl ⟨by omega, rfl, rfl⟩)

set_option maxHeartbeats 4000000 in
set_option maxRecDepth 100000 in
theorem kX1_leastSteps (l : Launch) (G : zG) (A : Nat → Nat) (Y : zY) (x pp qq ex : Nat) (nw : Nat) (sz : Nat → Nat) (lt : Nat → Nat → Nat) (tx : Nat → Nat) (len : Nat) (hXD : XD Y nw sz lt tx len) (hx : x < nw) (hp : pp ≤ sz x) (hq : qq ≤ len) (hex : ex ≤ 1) (hS9 : ∀ a b, a ≤ pp → b ≤ qq → (a < pp ∨ b < qq) → Y (49 + a) b = nI (dD (lt x) tx ex a b) ∧ dD (lt x) tx ex a b ≤ 100) : ZI l yX1_leastSteps cX1_leastSteps 8 (.int) 2 44 G A Y [.ref (A 45), .ref (A (62 + 2 * x)), .ref (A 16), .int (nI pp), .int (nI qq), .int (nI ex)] (fun r Y' => r = nI (dD (lt x) tx ex pp qq) ∧ Y' = Y) := by
  refine ZI.enter (by decide) (Nat.le_of_ble_eq_true rfl) ?_
  intro p e s m args below meth c R Q hxx hbb S hK hfr hlo hret H ls hP hS hl
  have hB : ∀ q, zAd A q → zAd A q := fun _ h => h
  have hl : lv_has ls 8 [(0, .ref (A 45)), (1, .ref (A (62 + 2 * x))), (2, .ref (A 16)), (3, .int (nI pp)), (4, .int (nI qq)), (5, .int (nI ex))] := hl
  have S : CallFix p m c cX1_leastSteps 8 s args wsL_law RX1 := S
  have hXD9 := hXD
  obtain ⟨hnw, hY45, hW, hL16⟩ := hXD
  have hlen := hL16.1
  have hKK : KXd Y Y := KXd.rf
  have hwx := hW x hx
  refine lv_iload_n hxx hbb dX1_leastSteps_0 rfl (lv_at hl 3 rfl) ?_
  refine zif_le (tgt := 9) S (by omega) dX1_leastSteps_1 (by decide) (fun c_1 => ?_) (fun c_1 => ?_)
  · skip
    refine lv_iload_n hxx hbb dX1_leastSteps_9 rfl (lv_at hl 3 rfl) ?_
    refine lv_iload hxx hbb dX1_leastSteps_10 (lv_at hl 4 rfl) ?_
    refine zmaxN S hl.1 zwX1_48 (Nat.le_trans (by decide) hfr) (Nat.le_trans (by decide) hlo) (by omega) (by omega) (Nat.le_of_ble_eq_true rfl) dX1_leastSteps_12 ?_
    exact hret _ _ _ _ _ _ dX1_leastSteps_15 (rfl) hP hS (⟨congrArg nI (by first | (have e9 : pp = 0 := (by omega); rw [e9, dD_0q _ (by omega)] <;> omega) | (have e9 : qq = 0 := (by omega); rw [e9, dD_p0 _ (by omega)] <;> omega)), rfl⟩)
  · skip
    refine lv_iload hxx hbb dX1_leastSteps_4 (lv_at hl 4 rfl) ?_
    refine zif_gt (tgt := 16) S (by omega) dX1_leastSteps_6 (by decide) (fun c_2 => ?_) (fun c_2 => ?_)
    · skip
      refine lv_aload_n hxx hbb dX1_leastSteps_16 rfl (lv_at hl 0 rfl) ?_
      refine zgX1_27 S hK hP 45 (by decide) zk_45 dX1_leastSteps_17 ?_
      refine lv_iload_n hxx hbb dX1_leastSteps_20 rfl (lv_at hl 3 rfl) ?_
      refine lv_iconst (v := nI 1) hxx hbb dX1_leastSteps_21 (by decide) ?_
      refine zsubN S (by omega) dX1_leastSteps_22 ?_
      refine zaldq48 S hK hP (by omega) dX1_leastSteps_23 ?_
      refine lv_iload hxx hbb dX1_leastSteps_24 (lv_at hl 4 rfl) ?_
      refine zaldN S hK hP (49 + (pp - 1)) 25 (by omega) (zk_stp (by omega)) (zl_stp (by omega)) (by omega) (v := nI (dD (lt x) tx ex (pp - 1) qq)) ((hS9 (pp - 1) qq (by omega) (by omega) (by omega)).1) dX1_leastSteps_26 ?_
      refine lv_aload_n hxx hbb dX1_leastSteps_27 rfl (lv_at hl 0 rfl) ?_
      refine zgX1_27 S hK hP 45 (by decide) zk_45 dX1_leastSteps_28 ?_
      refine lv_iload_n hxx hbb dX1_leastSteps_31 rfl (lv_at hl 3 rfl) ?_
      refine zaldq48 S hK hP (by omega) dX1_leastSteps_32 ?_
      refine lv_iload hxx hbb dX1_leastSteps_33 (lv_at hl 4 rfl) ?_
      refine lv_iconst (v := nI 1) hxx hbb dX1_leastSteps_35 (by decide) ?_
      refine zsubN S (by omega) dX1_leastSteps_36 ?_
      refine zaldN S hK hP (49 + pp) 25 (by omega) (zk_stp (by omega)) (zl_stp (by omega)) (by omega) (v := nI (dD (lt x) tx ex pp (qq - 1))) ((hS9 pp (qq - 1) (by omega) (by omega) (by omega)).1) dX1_leastSteps_37 ?_
      have hd1 := (hS9 (pp - 1) qq (by omega) (by omega) (by omega)).2
      have hd2 := (hS9 pp (qq - 1) (by omega) (by omega) (by omega)).2
      have hd3 := (hS9 (pp - 1) (qq - 1) (by omega) (by omega) (by omega)).2
      refine zminN S hl.1 zwX1_54 (Nat.le_trans (by decide) hfr) (Nat.le_trans (by decide) hlo) (by omega) (by omega) (Nat.le_of_ble_eq_true rfl) dX1_leastSteps_38 ?_
      refine lv_iconst (v := nI 1) hxx hbb dX1_leastSteps_41 (by decide) ?_
      refine zaddN S dX1_leastSteps_42 ?_
      refine lv_istore (lv' := [(6, .int (nI (min (dD (lt x) tx ex (pp - 1) qq) (dD (lt x) tx ex pp (qq - 1)) + 1))), (0, .ref (A 45)), (1, .ref (A (62 + 2 * x))), (2, .ref (A 16)), (3, .int (nI pp)), (4, .int (nI qq)), (5, .int (nI ex))]) hxx hbb dX1_leastSteps_43 hl (by decide) rfl (fun ls hl => ?_)
      refine lv_aload_n hxx hbb dX1_leastSteps_45 rfl (lv_at hl 2 rfl) ?_
      refine lv_iload_n hxx hbb dX1_leastSteps_46 rfl (lv_at hl 4 rfl) ?_
      refine lv_iconst (v := nI 1) hxx hbb dX1_leastSteps_47 (by decide) ?_
      refine zsubN S (by omega) dX1_leastSteps_48 ?_
      refine ZI.callVN S hK hP hS hB (kX3_letterAt l G A Y (62 + 2 * x) (sz x) (pp - 1) ((lt x) (pp - 1)) (zLP_word (by omega)) (hXD9.2.2.1 x (by omega)).1.2.1 (hXD9.2.2.1 x (by omega)).1.1 (by omega) ((hXD9.2.2.1 x (by omega)).1.2.2.1 _ (by omega)) (by have := (hXD9.2.2.1 x (by omega)).1.2.2.2 (pp - 1) (by omega); omega)) (znX1_57) zwX1_57 zdX3_letterAt rfl ⟨Nat.le_trans (by decide) hfr, Nat.le_trans (by decide) hlo⟩ (by omega) (zcK3 (zk_let (by omega))) rfl rfl (Nat.le_of_ble_eq_true rfl) hl.1 dX1_leastSteps_49 ⟨Nat.zero_le _, Nat.zero_le _⟩ (fun r_3 Y_4 H locs hq_5 hP hS => ?_)
      obtain ⟨hr9, hY9⟩ := hq_5
      subst hr9; rw [hY9] at hP
      have hlt_6 := (hXD9.2.2.1 x (by omega)).1.2.2.2 (pp - 1) (by omega)
      refine lv_aload_n hxx hbb dX1_leastSteps_52 rfl (lv_at hl 3 rfl) ?_
      refine lv_iload hxx hbb dX1_leastSteps_53 (lv_at hl 5 rfl) ?_
      refine lv_iconst (v := nI 1) hxx hbb dX1_leastSteps_55 (by decide) ?_
      refine zsubN S (by omega) dX1_leastSteps_56 ?_
      refine ZI.callVN S hK hP hS hB (kX3_letterAt l G A Y 16 len (qq - 1) (tx (qq - 1)) zLP_text hXD9.2.2.2.2.1 hXD9.2.2.2.1 (by omega) (hXD9.2.2.2.2.2.1 _ (by omega)) (by have := hXD9.2.2.2.2.2.2 (qq - 1) (by omega); omega)) (znX1_57) zwX1_57 zdX3_letterAt rfl ⟨Nat.le_trans (by decide) hfr, Nat.le_trans (by decide) hlo⟩ (by decide) (zcK3 zk_16) rfl rfl (Nat.le_of_ble_eq_true rfl) hl.1 dX1_leastSteps_57 ⟨Nat.zero_le _, Nat.zero_le _⟩ (fun r_7 Y_8 H locs hq_9 hP hS => ?_)
      obtain ⟨hr9, hY9⟩ := hq_9
      subst hr9; rw [hY9] at hP
      have hlt_10 := hXD9.2.2.2.2.2.2 (qq - 1) (by omega)
      refine zcmp_ne (tgt := 67) S (by omega) (by omega) dX1_leastSteps_60 (by decide) (fun c_11 => ?_) (fun c_11 => ?_)
      · skip
        refine lv_iconst (v := nI 0) hxx hbb dX1_leastSteps_67 (by decide) ?_
        have hdE : dE (lt x) tx pp qq = 1 := by unfold dE; first | rw [if_pos (by omega)] | rw [if_neg (by omega)]
        refine lv_istore (lv' := [(7, .int (nI 0)), (6, .int (nI (min (dD (lt x) tx ex (pp - 1) qq) (dD (lt x) tx ex pp (qq - 1)) + 1))), (0, .ref (A 45)), (1, .ref (A (62 + 2 * x))), (2, .ref (A 16)), (3, .int (nI pp)), (4, .int (nI qq)), (5, .int (nI ex))]) hxx hbb dX1_leastSteps_68 hl (by decide) rfl (fun ls hl => ?_)
        refine lv_iload hxx hbb dX1_leastSteps_70 (lv_at hl 1 rfl) ?_
        refine lv_aload_n hxx hbb dX1_leastSteps_72 rfl (lv_at hl 2 rfl) ?_
        refine zgX1_27 S hK hP 45 (by decide) zk_45 dX1_leastSteps_73 ?_
        refine lv_iload_n hxx hbb dX1_leastSteps_76 rfl (lv_at hl 5 rfl) ?_
        refine lv_iconst (v := nI 1) hxx hbb dX1_leastSteps_77 (by decide) ?_
        refine zsubN S (by omega) dX1_leastSteps_78 ?_
        refine zaldq48 S hK hP (by omega) dX1_leastSteps_79 ?_
        refine lv_iload hxx hbb dX1_leastSteps_80 (lv_at hl 6 rfl) ?_
        refine lv_iconst (v := nI 1) hxx hbb dX1_leastSteps_82 (by decide) ?_
        refine zsubN S (by omega) dX1_leastSteps_83 ?_
        refine zaldN S hK hP (49 + (pp - 1)) 25 (by omega) (zk_stp (by omega)) (zl_stp (by omega)) (by omega) (v := nI (dD (lt x) tx ex (pp - 1) (qq - 1))) ((hS9 (pp - 1) (qq - 1) (by omega) (by omega) (by omega)).1) dX1_leastSteps_84 ?_
        refine lv_iload hxx hbb dX1_leastSteps_85 (lv_at hl 0 rfl) ?_
        refine zif_eq (tgt := 94) S (by omega) dX1_leastSteps_87 (by decide) (fun c_12 => ?_) (fun c_12 => ?_)
        · skip
          refine lv_iconst (v := nI 1) hxx hbb dX1_leastSteps_94 (by decide) ?_
          refine zaddN S dX1_leastSteps_95 ?_
          refine zminN S hl.1 zwX1_54 (Nat.le_trans (by decide) hfr) (Nat.le_trans (by decide) hlo) (by omega) (by omega) (Nat.le_of_ble_eq_true rfl) dX1_leastSteps_96 ?_
          refine lv_istore (lv' := [(6, .int (nI (min (min (dD (lt x) tx ex (pp - 1) qq) (dD (lt x) tx ex pp (qq - 1)) + 1) (dD (lt x) tx ex (pp - 1) (qq - 1) + 1)))), (7, .int (nI 0)), (0, .ref (A 45)), (1, .ref (A (62 + 2 * x))), (2, .ref (A 16)), (3, .int (nI pp)), (4, .int (nI qq)), (5, .int (nI ex))]) hxx hbb dX1_leastSteps_99 hl (by decide) rfl (fun ls hl => ?_)
          refine lv_iload hxx hbb dX1_leastSteps_101 (lv_at hl 7 rfl) ?_
          refine zif_eq (tgt := 150) S (by omega) dX1_leastSteps_103 (by decide) (fun c_13 => ?_) (fun c_13 => ?_)
          · skip
            refine lv_iload hxx hbb dX1_leastSteps_150 (lv_at hl 0 rfl) ?_
            exact hret _ _ _ _ _ _ dX1_leastSteps_152 (rfl) hP hS (⟨congrArg nI (dLS_no (by omega) (by omega) (by omega) hdE (by omega)), rfl⟩)
          · skip
            refine lv_iload_n hxx hbb dX1_leastSteps_106 rfl (lv_at hl 5 rfl) ?_
            refine lv_iconst (v := nI 2) hxx hbb dX1_leastSteps_107 (by decide) ?_
            refine zcmp_lt (tgt := 150) S (by omega) (by omega) dX1_leastSteps_108 (by decide) (fun c_14 => ?_) (fun c_14 => ?_)
            · skip
              refine lv_iload hxx hbb dX1_leastSteps_150 (lv_at hl 0 rfl) ?_
              exact hret _ _ _ _ _ _ dX1_leastSteps_152 (rfl) hP hS (⟨congrArg nI (dLS_no (by omega) (by omega) (by omega) hdE (by omega)), rfl⟩)
            · skip
              refine lv_iload hxx hbb dX1_leastSteps_111 (lv_at hl 6 rfl) ?_
              refine lv_iconst (v := nI 2) hxx hbb dX1_leastSteps_113 (by decide) ?_
              refine zcmp_lt (tgt := 150) S (by omega) (by omega) dX1_leastSteps_114 (by decide) (fun c_15 => ?_) (fun c_15 => ?_)
              · skip
                refine lv_iload hxx hbb dX1_leastSteps_150 (lv_at hl 0 rfl) ?_
                exact hret _ _ _ _ _ _ dX1_leastSteps_152 (rfl) hP hS (⟨congrArg nI (dLS_no (by omega) (by omega) (by omega) hdE (by omega)), rfl⟩)
              · skip
                refine lv_aload_n hxx hbb dX1_leastSteps_117 rfl (lv_at hl 3 rfl) ?_
                refine lv_aload_n hxx hbb dX1_leastSteps_118 rfl (lv_at hl 4 rfl) ?_
                refine lv_iload_n hxx hbb dX1_leastSteps_119 rfl (lv_at hl 5 rfl) ?_
                refine lv_iload hxx hbb dX1_leastSteps_120 (lv_at hl 6 rfl) ?_
                refine ZI.callS S hK hP hS hB (kX1_areExchanged l G A Y x pp qq nw sz lt tx len hXD9 (by omega) (by omega) (by omega)) zwX1_61 zdX1_areExchanged rfl ⟨Nat.le_trans (by decide) hfr, Nat.le_trans (by decide) hlo⟩ rfl (Nat.le_of_ble_eq_true rfl) hl.1 dX1_leastSteps_122 ⟨Nat.zero_le _, Nat.zero_le _⟩ (fun r_16 Y_17 H locs hq_18 hP hS => ?_)
                rcases hq_18 with ⟨hb_19, hr9, hY9⟩ | ⟨hb_19, hr9, hY9⟩
                · skip
                  subst hr9; rw [hY9] at hP
                  refine zif_eq (tgt := 150) S (by omega) dX1_leastSteps_125 (by decide) (fun c_20 => ?_) (fun c_20 => ?_)
                  · skip
                    exact absurd c_20 (by decide)
                  · skip
                    refine lv_iload hxx hbb dX1_leastSteps_128 (lv_at hl 0 rfl) ?_
                    refine lv_aload_n hxx hbb dX1_leastSteps_130 rfl (lv_at hl 2 rfl) ?_
                    refine zgX1_27 S hK hP 45 (by decide) zk_45 dX1_leastSteps_131 ?_
                    refine lv_iload_n hxx hbb dX1_leastSteps_134 rfl (lv_at hl 5 rfl) ?_
                    refine lv_iconst (v := nI 2) hxx hbb dX1_leastSteps_135 (by decide) ?_
                    refine zsubN S (by omega) dX1_leastSteps_136 ?_
                    refine zaldq48 S hK hP (by omega) dX1_leastSteps_137 ?_
                    refine lv_iload hxx hbb dX1_leastSteps_138 (lv_at hl 6 rfl) ?_
                    refine lv_iconst (v := nI 2) hxx hbb dX1_leastSteps_140 (by decide) ?_
                    refine zsubN S (by omega) dX1_leastSteps_141 ?_
                    refine zaldN S hK hP (49 + (pp - 2)) 25 (by omega) (zk_stp (by omega)) (zl_stp (by omega)) (by omega) (v := nI (dD (lt x) tx ex (pp - 2) (qq - 2))) ((hS9 (pp - 2) (qq - 2) (by omega) (by omega) (by omega)).1) dX1_leastSteps_142 ?_
                    refine lv_iconst (v := nI 1) hxx hbb dX1_leastSteps_143 (by decide) ?_
                    refine zaddN S dX1_leastSteps_144 ?_
                    have hd4 := (hS9 (pp - 2) (qq - 2) (by omega) (by omega) (by omega)).2
                    refine zminN S hl.1 zwX1_54 (Nat.le_trans (by decide) hfr) (Nat.le_trans (by decide) hlo) (by omega) (by omega) (Nat.le_of_ble_eq_true rfl) dX1_leastSteps_145 ?_
                    refine lv_istore (lv' := [(6, .int (nI (min (min (min (dD (lt x) tx ex (pp - 1) qq) (dD (lt x) tx ex pp (qq - 1)) + 1) (dD (lt x) tx ex (pp - 1) (qq - 1) + 1)) (dD (lt x) tx ex (pp - 2) (qq - 2) + 1)))), (7, .int (nI 0)), (0, .ref (A 45)), (1, .ref (A (62 + 2 * x))), (2, .ref (A 16)), (3, .int (nI pp)), (4, .int (nI qq)), (5, .int (nI ex))]) hxx hbb dX1_leastSteps_148 hl (by decide) rfl (fun ls hl => ?_)
                    refine lv_iload hxx hbb dX1_leastSteps_150 (lv_at hl 0 rfl) ?_
                    exact hret _ _ _ _ _ _ dX1_leastSteps_152 (rfl) hP hS (⟨congrArg nI (dLS_ex (by omega) (by omega) (by omega) hdE ⟨by omega, by omega, by omega, hb_19⟩), rfl⟩)
                · skip
                  subst hr9; rw [hY9] at hP
                  refine zif_eq (tgt := 150) S (by omega) dX1_leastSteps_125 (by decide) (fun c_21 => ?_) (fun c_21 => ?_)
                  · skip
                    refine lv_iload hxx hbb dX1_leastSteps_150 (lv_at hl 0 rfl) ?_
                    exact hret _ _ _ _ _ _ dX1_leastSteps_152 (rfl) hP hS (⟨congrArg nI (dLS_no (by omega) (by omega) (by omega) hdE (fun z => hb_19 z.2.2.2)), rfl⟩)
                  · skip
                    exact absurd c_21 (by decide)
        · skip
          exact absurd c_12 (by decide)
      · skip
        refine lv_iconst (v := nI 1) hxx hbb dX1_leastSteps_63 (by decide) ?_
        refine lv_goto (tgt := 68) hxx hbb dX1_leastSteps_64 (by decide) ?_
        have hdE : dE (lt x) tx pp qq = 0 := by unfold dE; first | rw [if_pos (by omega)] | rw [if_neg (by omega)]
        refine lv_istore (lv' := [(7, .int (nI 1)), (6, .int (nI (min (dD (lt x) tx ex (pp - 1) qq) (dD (lt x) tx ex pp (qq - 1)) + 1))), (0, .ref (A 45)), (1, .ref (A (62 + 2 * x))), (2, .ref (A 16)), (3, .int (nI pp)), (4, .int (nI qq)), (5, .int (nI ex))]) hxx hbb dX1_leastSteps_68 hl (by decide) rfl (fun ls hl => ?_)
        refine lv_iload hxx hbb dX1_leastSteps_70 (lv_at hl 1 rfl) ?_
        refine lv_aload_n hxx hbb dX1_leastSteps_72 rfl (lv_at hl 2 rfl) ?_
        refine zgX1_27 S hK hP 45 (by decide) zk_45 dX1_leastSteps_73 ?_
        refine lv_iload_n hxx hbb dX1_leastSteps_76 rfl (lv_at hl 5 rfl) ?_
        refine lv_iconst (v := nI 1) hxx hbb dX1_leastSteps_77 (by decide) ?_
        refine zsubN S (by omega) dX1_leastSteps_78 ?_
        refine zaldq48 S hK hP (by omega) dX1_leastSteps_79 ?_
        refine lv_iload hxx hbb dX1_leastSteps_80 (lv_at hl 6 rfl) ?_
        refine lv_iconst (v := nI 1) hxx hbb dX1_leastSteps_82 (by decide) ?_
        refine zsubN S (by omega) dX1_leastSteps_83 ?_
        refine zaldN S hK hP (49 + (pp - 1)) 25 (by omega) (zk_stp (by omega)) (zl_stp (by omega)) (by omega) (v := nI (dD (lt x) tx ex (pp - 1) (qq - 1))) ((hS9 (pp - 1) (qq - 1) (by omega) (by omega) (by omega)).1) dX1_leastSteps_84 ?_
        refine lv_iload hxx hbb dX1_leastSteps_85 (lv_at hl 0 rfl) ?_
        refine zif_eq (tgt := 94) S (by omega) dX1_leastSteps_87 (by decide) (fun c_22 => ?_) (fun c_22 => ?_)
        · skip
          exact absurd c_22 (by decide)
        · skip
          refine lv_iconst (v := nI 0) hxx hbb dX1_leastSteps_90 (by decide) ?_
          refine lv_goto (tgt := 95) hxx hbb dX1_leastSteps_91 (by decide) ?_
          refine zaddN S dX1_leastSteps_95 ?_
          refine zminN S hl.1 zwX1_54 (Nat.le_trans (by decide) hfr) (Nat.le_trans (by decide) hlo) (by omega) (by omega) (Nat.le_of_ble_eq_true rfl) dX1_leastSteps_96 ?_
          refine lv_istore (lv' := [(6, .int (nI (min (min (dD (lt x) tx ex (pp - 1) qq) (dD (lt x) tx ex pp (qq - 1)) + 1) (dD (lt x) tx ex (pp - 1) (qq - 1) + 0)))), (7, .int (nI 1)), (0, .ref (A 45)), (1, .ref (A (62 + 2 * x))), (2, .ref (A 16)), (3, .int (nI pp)), (4, .int (nI qq)), (5, .int (nI ex))]) hxx hbb dX1_leastSteps_99 hl (by decide) rfl (fun ls hl => ?_)
          refine lv_iload hxx hbb dX1_leastSteps_101 (lv_at hl 7 rfl) ?_
          refine zif_eq (tgt := 150) S (by omega) dX1_leastSteps_103 (by decide) (fun c_23 => ?_) (fun c_23 => ?_)
          · skip
            refine lv_iload hxx hbb dX1_leastSteps_150 (lv_at hl 0 rfl) ?_
            exact hret _ _ _ _ _ _ dX1_leastSteps_152 (rfl) hP hS (⟨congrArg nI (dLS_no (by omega) (by omega) (by omega) hdE (by omega)), rfl⟩)
          · skip
            refine lv_iload_n hxx hbb dX1_leastSteps_106 rfl (lv_at hl 5 rfl) ?_
            refine lv_iconst (v := nI 2) hxx hbb dX1_leastSteps_107 (by decide) ?_
            refine zcmp_lt (tgt := 150) S (by omega) (by omega) dX1_leastSteps_108 (by decide) (fun c_24 => ?_) (fun c_24 => ?_)
            · skip
              refine lv_iload hxx hbb dX1_leastSteps_150 (lv_at hl 0 rfl) ?_
              exact hret _ _ _ _ _ _ dX1_leastSteps_152 (rfl) hP hS (⟨congrArg nI (dLS_no (by omega) (by omega) (by omega) hdE (by omega)), rfl⟩)
            · skip
              refine lv_iload hxx hbb dX1_leastSteps_111 (lv_at hl 6 rfl) ?_
              refine lv_iconst (v := nI 2) hxx hbb dX1_leastSteps_113 (by decide) ?_
              refine zcmp_lt (tgt := 150) S (by omega) (by omega) dX1_leastSteps_114 (by decide) (fun c_25 => ?_) (fun c_25 => ?_)
              · skip
                refine lv_iload hxx hbb dX1_leastSteps_150 (lv_at hl 0 rfl) ?_
                exact hret _ _ _ _ _ _ dX1_leastSteps_152 (rfl) hP hS (⟨congrArg nI (dLS_no (by omega) (by omega) (by omega) hdE (by omega)), rfl⟩)
              · skip
                refine lv_aload_n hxx hbb dX1_leastSteps_117 rfl (lv_at hl 3 rfl) ?_
                refine lv_aload_n hxx hbb dX1_leastSteps_118 rfl (lv_at hl 4 rfl) ?_
                refine lv_iload_n hxx hbb dX1_leastSteps_119 rfl (lv_at hl 5 rfl) ?_
                refine lv_iload hxx hbb dX1_leastSteps_120 (lv_at hl 6 rfl) ?_
                refine ZI.callS S hK hP hS hB (kX1_areExchanged l G A Y x pp qq nw sz lt tx len hXD9 (by omega) (by omega) (by omega)) zwX1_61 zdX1_areExchanged rfl ⟨Nat.le_trans (by decide) hfr, Nat.le_trans (by decide) hlo⟩ rfl (Nat.le_of_ble_eq_true rfl) hl.1 dX1_leastSteps_122 ⟨Nat.zero_le _, Nat.zero_le _⟩ (fun r_26 Y_27 H locs hq_28 hP hS => ?_)
                rcases hq_28 with ⟨hb_29, hr9, hY9⟩ | ⟨hb_29, hr9, hY9⟩
                · skip
                  subst hr9; rw [hY9] at hP
                  refine zif_eq (tgt := 150) S (by omega) dX1_leastSteps_125 (by decide) (fun c_30 => ?_) (fun c_30 => ?_)
                  · skip
                    exact absurd c_30 (by decide)
                  · skip
                    refine lv_iload hxx hbb dX1_leastSteps_128 (lv_at hl 0 rfl) ?_
                    refine lv_aload_n hxx hbb dX1_leastSteps_130 rfl (lv_at hl 2 rfl) ?_
                    refine zgX1_27 S hK hP 45 (by decide) zk_45 dX1_leastSteps_131 ?_
                    refine lv_iload_n hxx hbb dX1_leastSteps_134 rfl (lv_at hl 5 rfl) ?_
                    refine lv_iconst (v := nI 2) hxx hbb dX1_leastSteps_135 (by decide) ?_
                    refine zsubN S (by omega) dX1_leastSteps_136 ?_
                    refine zaldq48 S hK hP (by omega) dX1_leastSteps_137 ?_
                    refine lv_iload hxx hbb dX1_leastSteps_138 (lv_at hl 6 rfl) ?_
                    refine lv_iconst (v := nI 2) hxx hbb dX1_leastSteps_140 (by decide) ?_
                    refine zsubN S (by omega) dX1_leastSteps_141 ?_
                    refine zaldN S hK hP (49 + (pp - 2)) 25 (by omega) (zk_stp (by omega)) (zl_stp (by omega)) (by omega) (v := nI (dD (lt x) tx ex (pp - 2) (qq - 2))) ((hS9 (pp - 2) (qq - 2) (by omega) (by omega) (by omega)).1) dX1_leastSteps_142 ?_
                    refine lv_iconst (v := nI 1) hxx hbb dX1_leastSteps_143 (by decide) ?_
                    refine zaddN S dX1_leastSteps_144 ?_
                    have hd4 := (hS9 (pp - 2) (qq - 2) (by omega) (by omega) (by omega)).2
                    refine zminN S hl.1 zwX1_54 (Nat.le_trans (by decide) hfr) (Nat.le_trans (by decide) hlo) (by omega) (by omega) (Nat.le_of_ble_eq_true rfl) dX1_leastSteps_145 ?_
                    refine lv_istore (lv' := [(6, .int (nI (min (min (min (dD (lt x) tx ex (pp - 1) qq) (dD (lt x) tx ex pp (qq - 1)) + 1) (dD (lt x) tx ex (pp - 1) (qq - 1) + 0)) (dD (lt x) tx ex (pp - 2) (qq - 2) + 1)))), (7, .int (nI 1)), (0, .ref (A 45)), (1, .ref (A (62 + 2 * x))), (2, .ref (A 16)), (3, .int (nI pp)), (4, .int (nI qq)), (5, .int (nI ex))]) hxx hbb dX1_leastSteps_148 hl (by decide) rfl (fun ls hl => ?_)
                    refine lv_iload hxx hbb dX1_leastSteps_150 (lv_at hl 0 rfl) ?_
                    exact hret _ _ _ _ _ _ dX1_leastSteps_152 (rfl) hP hS (⟨congrArg nI (dLS_ex (by omega) (by omega) (by omega) hdE ⟨by omega, by omega, by omega, hb_29⟩), rfl⟩)
                · skip
                  subst hr9; rw [hY9] at hP
                  refine zif_eq (tgt := 150) S (by omega) dX1_leastSteps_125 (by decide) (fun c_31 => ?_) (fun c_31 => ?_)
                  · skip
                    refine lv_iload hxx hbb dX1_leastSteps_150 (lv_at hl 0 rfl) ?_
                    exact hret _ _ _ _ _ _ dX1_leastSteps_152 (rfl) hP hS (⟨congrArg nI (dLS_no (by omega) (by omega) (by omega) hdE (fun z => hb_29 z.2.2.2)), rfl⟩)
                  · skip
                    exact absurd c_31 (by decide)
    · skip
      refine lv_iload_n hxx hbb dX1_leastSteps_9 rfl (lv_at hl 3 rfl) ?_
      refine lv_iload hxx hbb dX1_leastSteps_10 (lv_at hl 4 rfl) ?_
      refine zmaxN S hl.1 zwX1_48 (Nat.le_trans (by decide) hfr) (Nat.le_trans (by decide) hlo) (by omega) (by omega) (Nat.le_of_ble_eq_true rfl) dX1_leastSteps_12 ?_
      exact hret _ _ _ _ _ _ dX1_leastSteps_15 (rfl) hP hS (⟨congrArg nI (by first | (have e9 : pp = 0 := (by omega); rw [e9, dD_0q _ (by omega)] <;> omega) | (have e9 : qq = 0 := (by omega); rw [e9, dD_p0 _ (by omega)] <;> omega)), rfl⟩)

set_option maxHeartbeats 4000000 in
set_option maxRecDepth 100000 in
theorem kX1_distanceOf (l : Launch) (G : zG) (A : Nat → Nat) (Y : zY) (wd : Int32) (ex : Nat) (nw : Nat) (sz : Nat → Nat) (lt : Nat → Nat → Nat) (tx : Nat → Nat) (len : Nat) (hXD : XD Y nw sz lt tx len) (hex : ex ≤ 1) : ZI l yX1_distanceOf cX1_distanceOf 7 (.int) 3 71 G A Y [.ref (A 45), .int wd, .ref (A 16), .int (nI ex)] (fun r Y' => r = dA nw sz lt tx len ex wd ∧ KXd Y Y' ∧ Y' 47 = Y 47) := by
  refine ZI.enter (by decide) (Nat.le_of_ble_eq_true rfl) ?_
  intro p e s m args below meth c R Q hxx hbb S hK hfr hlo hret H ls hP hS hl
  have hB : ∀ q, zAd A q → zAd A q := fun _ h => h
  have hl : lv_has ls 7 [(0, .ref (A 45)), (1, .int wd), (2, .ref (A 16)), (3, .int (nI ex))] := hl
  have S : CallFix p m c cX1_distanceOf 7 s args wsL_law RX1 := S
  have hXD9 := hXD
  obtain ⟨hnw, hY45, hW, hL16⟩ := hXD
  have hlen := hL16.1
  have hKK : KXd Y Y := KXd.rf
  refine lv_iload_n hxx hbb dX1_distanceOf_0 rfl (lv_at hl 1 rfl) ?_
  refine lv_if_lt (tgt := 12) hxx hbb dX1_distanceOf_1 (by decide) (fun c_1 => ?_) (fun c_1 => ?_)
  · skip
    refine lv_iconst (v := (-1)) hxx hbb dX1_distanceOf_12 (by decide) ?_
    exact hret _ _ _ _ _ _ dX1_distanceOf_13 (rfl) hP hS (⟨by unfold dA; rw [if_pos (by first | exact Or.inl ‹_› | exact Or.inr (Int32.not_lt.mp ‹_›))], KXd.rf, rfl⟩)
  · skip
    refine lv_iload_n hxx hbb dX1_distanceOf_4 rfl (lv_at hl 1 rfl) ?_
    refine lv_aload_n hxx hbb dX1_distanceOf_5 rfl (lv_at hl 0 rfl) ?_
    refine zgX1_17 S hK hP 45 (by decide) zk_45 (v := nI nw) (hY45) dX1_distanceOf_6 ?_
    refine lv_icmp_lt (tgt := 14) hxx hbb dX1_distanceOf_9 (by decide) (fun c_2 => ?_) (fun c_2 => ?_)
    · skip
      obtain ⟨x, hxl, hwx⟩ := nI_of c_1
      subst hwx
      have hx : x < nw := (nI_ltI hxl (by omega)).mp c_2
      have hwx := hW x hx
      have hDle : ∀ a b, a ≤ sz x → b ≤ len → dD (lt x) tx ex a b ≤ 100 := fun a b h1 h2 => by have := dD_le (a := lt x) (b := tx) (ex := ex) _ a b rfl; omega
      refine lv_aload_n hxx hbb dX1_distanceOf_14 rfl (lv_at hl 0 rfl) ?_
      refine zgX1_11 S hK hP 45 (by decide) zk_45 dX1_distanceOf_15 ?_
      refine lv_iload_n hxx hbb dX1_distanceOf_18 rfl (lv_at hl 1 rfl) ?_
      refine zaldq46 S hK hP (by omega) dX1_distanceOf_19 ?_
      refine lv_astore (lv' := [(4, .ref (A (62 + 2 * x))), (0, .ref (A 45)), (1, .int (nI x)), (2, .ref (A 16)), (3, .int (nI ex))]) hxx hbb dX1_distanceOf_20 hl (by decide) rfl (fun ls hl => ?_)
      refine lv_iconst (v := nI 0) hxx hbb dX1_distanceOf_22 (by decide) ?_
      refine lv_istore (lv' := [(5, .int (nI 0)), (4, .ref (A (62 + 2 * x))), (0, .ref (A 45)), (1, .int (nI x)), (2, .ref (A 16)), (3, .int (nI ex))]) hxx hbb dX1_distanceOf_23 hl (by decide) rfl (fun ls hl => ?_)
      have L_25 : ∀ (N_25 : Nat) (pp : Nat) (Y1 : zY) (hp : pp ≤ sz x + 1) (hKK : KXd Y Y1) (h47 : Y1 47 = Y 47) (hS9 : SXd Y1 (dD (lt x) tx ex) len pp 0), sz x + 1 - pp < N_25 → ∀ (H : Heap) (locs : List Loc) (ls : Array Slot), va_P G.1 vwCl (zW G A Y1) H → va_S (zAd A) s.heap H locs → lv_has ls 7 [(0, .ref (A 45)), (1, .int (nI x)), (2, .ref (A 16)), (3, .int (nI ex)), (4, .ref (A (62 + 2 * x))), (5, .int (nI pp))] → W p l e R s m args below meth c H locs 0 0 Q (F0 m 25 ls []) := by
        intro N_25
        induction N_25 with
        | zero => intro pp Y1 hp hKK h47 hS9 hm; exact absurd hm (Nat.not_lt_zero _)
        | succ N_25 ih_25 =>
          intro pp Y1 hp hKK h47 hS9 hm_25 H locs ls hP hS hl
          refine lv_iload hxx hbb dX1_distanceOf_25 (lv_at hl 5 rfl) ?_
          refine lv_aload hxx hbb dX1_distanceOf_27 (lv_at hl 4 rfl) ?_
          refine zgX1_31 S hK hP (62 + 2 * x) (by omega) (zk_let (by omega)) (v := nI (sz x)) ((congrFun (hKK (62 + 2 * x) (by omega) (by omega)) 1).trans hwx.1.2.1) dX1_distanceOf_29 ?_
          refine zcmp_gt (tgt := 81) S (by omega) (by omega) dX1_distanceOf_32 (by decide) (fun c_3 => ?_) (fun c_3 => ?_)
          · skip
            refine lv_aload_n hxx hbb dX1_distanceOf_81 rfl (lv_at hl 0 rfl) ?_
            refine zgX1_27 S hK hP 45 (by decide) zk_45 dX1_distanceOf_82 ?_
            refine lv_aload hxx hbb dX1_distanceOf_85 (lv_at hl 4 rfl) ?_
            refine zgX1_31 S hK hP (62 + 2 * x) (by omega) (zk_let (by omega)) (v := nI (sz x)) ((congrFun (hKK (62 + 2 * x) (by omega) (by omega)) 1).trans hwx.1.2.1) dX1_distanceOf_87 ?_
            refine zaldq48 S hK hP (by omega) dX1_distanceOf_90 ?_
            refine lv_aload_n hxx hbb dX1_distanceOf_91 rfl (lv_at hl 2 rfl) ?_
            refine zgX1_31 S hK hP 16 (by decide) zk_16 (v := nI len) ((congrFun (hKK 16 (by omega) (by omega)) 1).trans hL16.2.1) dX1_distanceOf_92 ?_
            refine zaldN S hK hP (49 + (sz x)) 25 (by omega) (zk_stp (by omega)) (zl_stp (by omega)) (by omega) (v := nI (dD (lt x) tx ex (sz x) len)) (hS9 _ _ (by omega) (by omega)) dX1_distanceOf_95 ?_
            exact hret _ _ _ _ _ _ dX1_distanceOf_96 (rfl) hP hS (⟨(dA_nat hx hnw).symm, hKK, h47⟩)
          · skip
            refine lv_iconst (v := nI 0) hxx hbb dX1_distanceOf_35 (by decide) ?_
            refine lv_istore (lv' := [(6, .int (nI 0)), (0, .ref (A 45)), (1, .int (nI x)), (2, .ref (A 16)), (3, .int (nI ex)), (4, .ref (A (62 + 2 * x))), (5, .int (nI pp))]) hxx hbb dX1_distanceOf_36 hl (by decide) rfl (fun ls hl => ?_)
            have L_38 : ∀ (N_38 : Nat) (qq : Nat) (Y1 : zY) (hq : qq ≤ len + 1) (hKK : KXd Y Y1) (h47 : Y1 47 = Y 47) (hS9 : SXd Y1 (dD (lt x) tx ex) len pp qq), len + 1 - qq < N_38 → ∀ (H : Heap) (locs : List Loc) (ls : Array Slot), va_P G.1 vwCl (zW G A Y1) H → va_S (zAd A) s.heap H locs → lv_has ls 7 [(0, .ref (A 45)), (1, .int (nI x)), (2, .ref (A 16)), (3, .int (nI ex)), (4, .ref (A (62 + 2 * x))), (5, .int (nI pp)), (6, .int (nI qq))] → W p l e R s m args below meth c H locs 0 0 Q (F0 m 38 ls []) := by
              intro N_38
              induction N_38 with
              | zero => intro qq Y1 hq hKK h47 hS9 hm; exact absurd hm (Nat.not_lt_zero _)
              | succ N_38 ih_38 =>
                intro qq Y1 hq hKK h47 hS9 hm_38 H locs ls hP hS hl
                refine lv_iload hxx hbb dX1_distanceOf_38 (lv_at hl 6 rfl) ?_
                refine lv_aload_n hxx hbb dX1_distanceOf_40 rfl (lv_at hl 2 rfl) ?_
                refine zgX1_31 S hK hP 16 (by decide) zk_16 (v := nI len) ((congrFun (hKK 16 (by omega) (by omega)) 1).trans hL16.2.1) dX1_distanceOf_41 ?_
                refine zcmp_gt (tgt := 75) S (by omega) (by omega) dX1_distanceOf_44 (by decide) (fun c_4 => ?_) (fun c_4 => ?_)
                · skip
                  refine lv_iinc (v := nI (pp + 1)) (lv' := [(5, .int (nI (pp + 1))), (0, .ref (A 45)), (1, .int (nI x)), (2, .ref (A 16)), (3, .int (nI ex)), (4, .ref (A (62 + 2 * x))), (6, .int (nI qq))]) hxx hbb dX1_distanceOf_75 hl (k := 5) rfl (zinc1 _) (by decide) rfl (fun ls hl => ?_)
                  refine lv_goto (tgt := 25) hxx hbb dX1_distanceOf_78 (by decide) ?_
                  exact ih_25 (pp + 1) Y1 (by omega) hKK h47 (hS9.next (by omega)) (by omega) _ _ _ hP hS (lv_sub hl [1, 2, 3, 4, 5, 0] rfl)
                · skip
                  refine lv_aload_n hxx hbb dX1_distanceOf_47 rfl (lv_at hl 0 rfl) ?_
                  refine zgX1_27 S hK hP 45 (by decide) zk_45 dX1_distanceOf_48 ?_
                  refine lv_iload hxx hbb dX1_distanceOf_51 (lv_at hl 5 rfl) ?_
                  refine zaldq48 S hK hP (by omega) dX1_distanceOf_53 ?_
                  refine lv_iload hxx hbb dX1_distanceOf_54 (lv_at hl 6 rfl) ?_
                  refine lv_aload_n hxx hbb dX1_distanceOf_56 rfl (lv_at hl 0 rfl) ?_
                  refine lv_aload hxx hbb dX1_distanceOf_57 (lv_at hl 4 rfl) ?_
                  refine lv_aload_n hxx hbb dX1_distanceOf_59 rfl (lv_at hl 2 rfl) ?_
                  refine lv_iload hxx hbb dX1_distanceOf_60 (lv_at hl 5 rfl) ?_
                  refine lv_iload hxx hbb dX1_distanceOf_62 (lv_at hl 6 rfl) ?_
                  refine lv_iload_n hxx hbb dX1_distanceOf_64 rfl (lv_at hl 3 rfl) ?_
                  refine ZI.callV S hK hP hS hB (kX1_leastSteps l G A Y1 x pp qq ex nw sz lt tx len (hXD9.keep hKK) hx (by omega) (by omega) hex (fun a b h1 h2 h3 => ⟨hS9 a b (by omega) (by omega), hDle a b (by omega) (by omega)⟩)) zwX1_44 zdX1_leastSteps rfl ⟨Nat.le_trans (by decide) hfr, Nat.le_trans (by decide) hlo⟩ (by decide) (zcK5 zk_45) rfl rfl (Nat.le_of_ble_eq_true rfl) hl.1 dX1_distanceOf_65 ⟨Nat.zero_le _, Nat.zero_le _⟩ (fun r_5 Y_6 H locs hq_7 hP hS => ?_)
                  obtain ⟨hr9, hY9⟩ := hq_7
                  subst hr9; rw [hY9] at hP
                  refine zastN S hK hP hS hB (49 + pp) 25 (by omega) (zk_stp (by omega)) (zl_stp (by omega)) (by omega) dX1_distanceOf_68 (fun H locs hP hS => ?_)
                  refine lv_iinc (v := nI (qq + 1)) (lv' := [(6, .int (nI (qq + 1))), (0, .ref (A 45)), (1, .int (nI x)), (2, .ref (A 16)), (3, .int (nI ex)), (4, .ref (A (62 + 2 * x))), (5, .int (nI pp))]) hxx hbb dX1_distanceOf_69 hl (k := 6) rfl (zinc1 _) (by decide) rfl (fun ls hl => ?_)
                  refine lv_goto (tgt := 38) hxx hbb dX1_distanceOf_72 (by decide) ?_
                  exact ih_38 (qq + 1) (zU Y1 (49 + pp) qq (nI (dD (lt x) tx ex pp qq))) (by omega) (hKK.stp (by omega)) ((zU_row (by omega)).trans h47) hS9.put (by omega) _ _ _ hP hS (lv_sub hl [1, 2, 3, 4, 5, 6, 0] rfl)
            exact L_38 (_ + 1) 0 Y1 (by omega) hKK h47 hS9 (Nat.lt_succ_self _) _ _ _ hP hS (lv_sub hl [1, 2, 3, 4, 5, 6, 0] rfl)
      exact L_25 (_ + 1) 0 Y (by omega) hKK rfl (fun a b _ h => absurd h (by omega)) (Nat.lt_succ_self _) _ _ _ hP hS (lv_sub hl [2, 3, 4, 5, 1, 0] rfl)
    · skip
      refine lv_iconst (v := (-1)) hxx hbb dX1_distanceOf_12 (by decide) ?_
      exact hret _ _ _ _ _ _ dX1_distanceOf_13 (rfl) hP hS (⟨by unfold dA; rw [if_pos (by first | exact Or.inl ‹_› | exact Or.inr (Int32.not_lt.mp ‹_›))], KXd.rf, rfl⟩)

set_option maxHeartbeats 4000000 in
set_option maxRecDepth 100000 in
theorem kX1_countWithin (l : Launch) (G : zG) (A : Nat → Nat) (Y : zY) (kk : Int32) (ex : Nat) (nw : Nat) (sz : Nat → Nat) (lt : Nat → Nat → Nat) (tx : Nat → Nat) (len : Nat) (hXD : XD Y nw sz lt tx len) (hex : ex ≤ 1) : ZI l yX1_countWithin cX1_countWithin 6 (.int) 4 97 G A Y [.ref (A 45), .int kk, .ref (A 16), .int (nI ex)] (fun r Y' => r = nI (cN (nrN (fun w => dD (lt w) tx ex (sz w) len) kk) nw) ∧ KXd Y Y') := by
  refine ZI.enter (by decide) (Nat.le_of_ble_eq_true rfl) ?_
  intro p e s m args below meth c R Q hxx hbb S hK hfr hlo hret H ls hP hS hl
  have hB : ∀ q, zAd A q → zAd A q := fun _ h => h
  have hl : lv_has ls 6 [(0, .ref (A 45)), (1, .int kk), (2, .ref (A 16)), (3, .int (nI ex))] := hl
  have S : CallFix p m c cX1_countWithin 6 s args wsL_law RX1 := S
  have hXD9 := hXD
  obtain ⟨hnw, hY45, hW, hL16⟩ := hXD
  have hlen := hL16.1
  have hKK : KXd Y Y := KXd.rf
  obtain ⟨dd, hdd⟩ : ∃ dd : Nat → Nat, dd = fun w => dD (lt w) tx ex (sz w) len := ⟨_, rfl⟩
  have hddle : ∀ w, w < nw → dd w ≤ 100 := fun w hw => by have h1 := dD_le (a := lt w) (b := tx) (ex := ex) _ (sz w) len rfl; have h2 := hW w hw; rw [hdd]; show dD _ _ _ _ _ ≤ 100; omega
  refine lv_iconst (v := nI 0) hxx hbb dX1_countWithin_0 (by decide) ?_
  refine lv_istore (lv' := [(4, .int (nI 0)), (0, .ref (A 45)), (1, .int kk), (2, .ref (A 16)), (3, .int (nI ex))]) hxx hbb dX1_countWithin_1 hl (by decide) rfl (fun ls hl => ?_)
  refine lv_iconst (v := nI 0) hxx hbb dX1_countWithin_3 (by decide) ?_
  refine lv_istore (lv' := [(5, .int (nI 0)), (4, .int (nI 0)), (0, .ref (A 45)), (1, .int kk), (2, .ref (A 16)), (3, .int (nI ex))]) hxx hbb dX1_countWithin_4 hl (by decide) rfl (fun ls hl => ?_)
  have L_6 : ∀ (N_6 : Nat) (x cc : Nat) (Y1 : zY) (hxn : x ≤ nw) (hKK : KXd Y Y1) (hc : cc = cN (nrN dd kk) x) (hcl : cc ≤ x), nw - x < N_6 → ∀ (H : Heap) (locs : List Loc) (ls : Array Slot), va_P G.1 vwCl (zW G A Y1) H → va_S (zAd A) s.heap H locs → lv_has ls 6 [(0, .ref (A 45)), (1, .int kk), (2, .ref (A 16)), (3, .int (nI ex)), (4, .int (nI cc)), (5, .int (nI x))] → W p l e R s m args below meth c H locs 0 0 Q (F0 m 6 ls []) := by
    intro N_6
    induction N_6 with
    | zero => intro x cc Y1 hxn hKK hc hcl hm; exact absurd hm (Nat.not_lt_zero _)
    | succ N_6 ih_6 =>
      intro x cc Y1 hxn hKK hc hcl hm_6 H locs ls hP hS hl
      refine lv_iload hxx hbb dX1_countWithin_6 (lv_at hl 5 rfl) ?_
      refine lv_aload_n hxx hbb dX1_countWithin_8 rfl (lv_at hl 0 rfl) ?_
      refine zgX1_17 S hK hP 45 (by decide) zk_45 (v := nI nw) ((congrFun (hKK 45 (by omega) (by omega)) 1).trans hY45) dX1_countWithin_9 ?_
      refine zcmp_ge (tgt := 36) S (by omega) (by omega) dX1_countWithin_12 (by decide) (fun c_1 => ?_) (fun c_1 => ?_)
      · skip
        refine lv_iload hxx hbb dX1_countWithin_36 (lv_at hl 4 rfl) ?_
        exact hret _ _ _ _ _ _ dX1_countWithin_38 (rfl) hP hS (⟨by rw [hc, show x = nw by omega, hdd], hKK⟩)
      · skip
        refine lv_aload_n hxx hbb dX1_countWithin_15 rfl (lv_at hl 0 rfl) ?_
        refine lv_iload hxx hbb dX1_countWithin_16 (lv_at hl 5 rfl) ?_
        refine lv_aload_n hxx hbb dX1_countWithin_18 rfl (lv_at hl 2 rfl) ?_
        refine lv_iload_n hxx hbb dX1_countWithin_19 rfl (lv_at hl 3 rfl) ?_
        refine ZI.callV S hK hP hS hB (kX1_distanceOf l G A Y1 (nI x) ex nw sz lt tx len (hXD9.keep hKK) (by omega)) zwX1_65 zdX1_distanceOf rfl ⟨Nat.le_trans (by decide) hfr, Nat.le_trans (by decide) hlo⟩ (by decide) (zcK5 zk_45) rfl rfl (Nat.le_of_ble_eq_true rfl) hl.1 dX1_countWithin_20 ⟨Nat.zero_le _, Nat.zero_le _⟩ (fun r_2 Y_3 H locs hq_4 hP hS => ?_)
        obtain ⟨hr9, hk9, h479⟩ := hq_4
        have hKK := hKK.trans hk9
        have hxx9 : x < nw := by omega
        have hr9 := hr9.trans (dA_nat (by omega) hnw)
        have hr9 := hr9.trans (show _ = nI (dd x) by rw [hdd])
        have hd9 := hddle x hxx9
        subst hr9
        refine lv_iload_n hxx hbb dX1_countWithin_23 rfl (lv_at hl 1 rfl) ?_
        refine lv_icmp_gt (tgt := 30) hxx hbb dX1_countWithin_24 (by decide) (fun c_5 => ?_) (fun c_5 => ?_)
        · skip
          refine lv_iinc (v := nI (x + 1)) (lv' := [(5, .int (nI (x + 1))), (0, .ref (A 45)), (1, .int kk), (2, .ref (A 16)), (3, .int (nI ex)), (4, .int (nI cc))]) hxx hbb dX1_countWithin_30 hl (k := 5) rfl (zinc1 _) (by decide) rfl (fun ls hl => ?_)
          refine lv_goto (tgt := 6) hxx hbb dX1_countWithin_33 (by decide) ?_
          exact ih_6 (x + 1) cc Y_3 (by omega) hKK (by simp only [cN, nrN, ← hc]; rw [if_neg (Int32.not_le.mpr c_5)] <;> rfl) (by omega) (by omega) _ _ _ hP hS (lv_sub hl [1, 2, 3, 4, 5, 0] rfl)
        · skip
          refine lv_iinc (v := nI (cc + 1)) (lv' := [(4, .int (nI (cc + 1))), (0, .ref (A 45)), (1, .int kk), (2, .ref (A 16)), (3, .int (nI ex)), (5, .int (nI x))]) hxx hbb dX1_countWithin_27 hl (k := 4) rfl (zinc1 _) (by decide) rfl (fun ls hl => ?_)
          refine lv_iinc (v := nI (x + 1)) (lv' := [(5, .int (nI (x + 1))), (4, .int (nI (cc + 1))), (0, .ref (A 45)), (1, .int kk), (2, .ref (A 16)), (3, .int (nI ex))]) hxx hbb dX1_countWithin_30 hl (k := 5) rfl (zinc1 _) (by decide) rfl (fun ls hl => ?_)
          refine lv_goto (tgt := 6) hxx hbb dX1_countWithin_33 (by decide) ?_
          exact ih_6 (x + 1) (cc + 1) Y_3 (by omega) hKK (by simp only [cN, nrN, ← hc]; rw [if_pos (Int32.not_lt.mp c_5)] <;> rfl) (by omega) (by omega) _ _ _ hP hS (lv_sub hl [2, 3, 4, 5, 1, 0] rfl)
  exact L_6 (_ + 1) 0 0 Y (by omega) hKK rfl (by omega) (Nat.lt_succ_self _) _ _ _ hP hS (lv_sub hl [2, 3, 4, 5, 1, 0] rfl)

set_option maxHeartbeats 4000000 in
set_option maxRecDepth 100000 in
theorem kX1_comesBefore (l : Launch) (G : zG) (A : Nat → Nat) (Y : zY) (z x : Nat) (dd : Nat → Nat) (nw : Nat) (sz : Nat → Nat) (lt : Nat → Nat → Nat) (tx : Nat → Nat) (len : Nat) (hXD : XD Y nw sz lt tx len) (hdis : ∀ v, v < nw → Y 47 v = nI (dd v) ∧ dd v ≤ 100) (hz : z < nw) (hx : x < nw) : ZI l yX1_comesBefore cX1_comesBefore 3 (.boolean) 2 45 G A Y [.ref (A 45), .int (nI z), .int (nI x)] (fun r Y' => (rkB sz lt dd x z ∧ r = nI 1 ∧ Y' = Y) ∨ (¬ rkB sz lt dd x z ∧ r = nI 0 ∧ Y' = Y)) := by
  refine ZI.enter (by decide) (Nat.le_of_ble_eq_true rfl) ?_
  intro p e s m args below meth c R Q hxx hbb S hK hfr hlo hret H ls hP hS hl
  have hB : ∀ q, zAd A q → zAd A q := fun _ h => h
  have hl : lv_has ls 3 [(0, .ref (A 45)), (1, .int (nI z)), (2, .int (nI x))] := hl
  have S : CallFix p m c cX1_comesBefore 3 s args wsL_law RX1 := S
  have hXD9 := hXD
  obtain ⟨hnw, hY45, hW, hL16⟩ := hXD
  have hlen := hL16.1
  have hKK : KXd Y Y := KXd.rf
  have hd1 := (hdis z hz).2
  have hd2 := (hdis x hx).2
  refine lv_aload_n hxx hbb dX1_comesBefore_0 rfl (lv_at hl 0 rfl) ?_
  refine zgX1_21 S hK hP 45 (by decide) zk_45 dX1_comesBefore_1 ?_
  refine lv_iload_n hxx hbb dX1_comesBefore_4 rfl (lv_at hl 1 rfl) ?_
  refine zaldN S hK hP 47 20 (by decide) zk_47 zl_47 (by omega) (v := nI (dd z)) ((hdis _ (by omega)).1) dX1_comesBefore_5 ?_
  refine lv_aload_n hxx hbb dX1_comesBefore_6 rfl (lv_at hl 0 rfl) ?_
  refine zgX1_21 S hK hP 45 (by decide) zk_45 dX1_comesBefore_7 ?_
  refine lv_iload_n hxx hbb dX1_comesBefore_10 rfl (lv_at hl 2 rfl) ?_
  refine zaldN S hK hP 47 20 (by decide) zk_47 zl_47 (by omega) (v := nI (dd x)) ((hdis _ (by omega)).1) dX1_comesBefore_11 ?_
  refine zcmp_eq (tgt := 36) S (by omega) (by omega) dX1_comesBefore_12 (by decide) (fun c_1 => ?_) (fun c_1 => ?_)
  · skip
    refine lv_aload_n hxx hbb dX1_comesBefore_36 rfl (lv_at hl 0 rfl) ?_
    refine zgX1_11 S hK hP 45 (by decide) zk_45 dX1_comesBefore_37 ?_
    refine lv_iload_n hxx hbb dX1_comesBefore_40 rfl (lv_at hl 1 rfl) ?_
    refine zaldq46 S hK hP (by omega) dX1_comesBefore_41 ?_
    refine lv_aload_n hxx hbb dX1_comesBefore_42 rfl (lv_at hl 0 rfl) ?_
    refine zgX1_11 S hK hP 45 (by decide) zk_45 dX1_comesBefore_43 ?_
    refine lv_iload_n hxx hbb dX1_comesBefore_46 rfl (lv_at hl 2 rfl) ?_
    refine zaldq46 S hK hP (by omega) dX1_comesBefore_47 ?_
    refine ZI.callVN S hK hP hS hB (kX3_compareWith l G A Y (62 + 2 * z) (62 + 2 * x) (sz z) (sz x) (lt z) (lt x) (zLP_word (by omega)) (zLP_word (by omega)) (hW z (by omega)).1 (hW x (by omega)).1) (znX1_40) zwX1_40 zdX3_compareWith rfl ⟨Nat.le_trans (by decide) hfr, Nat.le_trans (by decide) hlo⟩ (by omega) (zcK3 (zk_let (by omega))) rfl rfl (Nat.le_of_ble_eq_true rfl) hl.1 dX1_comesBefore_48 ⟨Nat.zero_le _, Nat.zero_le _⟩ (fun r_2 Y_3 H locs hq_4 hP hS => ?_)
    obtain ⟨hcw_5, hY9⟩ := hq_4
    rw [hY9] at hP
    refine lv_if_ge (tgt := 58) hxx hbb dX1_comesBefore_51 (by decide) (fun c_6 => ?_) (fun c_6 => ?_)
    · skip
      refine lv_iconst (v := nI 0) hxx hbb dX1_comesBefore_58 (by decide) ?_
      exact hret _ _ _ _ _ _ dX1_comesBefore_59 (by first | rfl | decide) hP hS (Or.inr ⟨fun z => z.elim (fun q => by omega) (fun q => CW_nneg hcw_5 (Int32.not_lt.mpr c_6) q.2), rfl, rfl⟩)
    · skip
      refine lv_iconst (v := nI 1) hxx hbb dX1_comesBefore_54 (by decide) ?_
      refine lv_goto (tgt := 59) hxx hbb dX1_comesBefore_55 (by decide) ?_
      exact hret _ _ _ _ _ _ dX1_comesBefore_59 (by first | rfl | decide) hP hS (Or.inl ⟨Or.inr ⟨by omega, CW_neg hcw_5 (Int32.not_le.mp c_6)⟩, rfl, rfl⟩)
  · skip
    refine lv_aload_n hxx hbb dX1_comesBefore_15 rfl (lv_at hl 0 rfl) ?_
    refine zgX1_21 S hK hP 45 (by decide) zk_45 dX1_comesBefore_16 ?_
    refine lv_iload_n hxx hbb dX1_comesBefore_19 rfl (lv_at hl 1 rfl) ?_
    refine zaldN S hK hP 47 20 (by decide) zk_47 zl_47 (by omega) (v := nI (dd z)) ((hdis _ (by omega)).1) dX1_comesBefore_20 ?_
    refine lv_aload_n hxx hbb dX1_comesBefore_21 rfl (lv_at hl 0 rfl) ?_
    refine zgX1_21 S hK hP 45 (by decide) zk_45 dX1_comesBefore_22 ?_
    refine lv_iload_n hxx hbb dX1_comesBefore_25 rfl (lv_at hl 2 rfl) ?_
    refine zaldN S hK hP 47 20 (by decide) zk_47 zl_47 (by omega) (v := nI (dd x)) ((hdis _ (by omega)).1) dX1_comesBefore_26 ?_
    refine zcmp_ge (tgt := 34) S (by omega) (by omega) dX1_comesBefore_27 (by decide) (fun c_7 => ?_) (fun c_7 => ?_)
    · skip
      refine lv_iconst (v := nI 0) hxx hbb dX1_comesBefore_34 (by decide) ?_
      exact hret _ _ _ _ _ _ dX1_comesBefore_35 (by first | rfl | decide) hP hS (Or.inr ⟨fun z => z.elim (fun q => by omega) (fun q => by have := q.1; omega), rfl, rfl⟩)
    · skip
      refine lv_iconst (v := nI 1) hxx hbb dX1_comesBefore_30 (by decide) ?_
      refine lv_goto (tgt := 35) hxx hbb dX1_comesBefore_31 (by decide) ?_
      exact hret _ _ _ _ _ _ dX1_comesBefore_35 (by first | rfl | decide) hP hS (Or.inl ⟨Or.inl (by omega), rfl, rfl⟩)

set_option maxHeartbeats 4000000 in
set_option maxRecDepth 100000 in
theorem kX1_rankOf (l : Launch) (G : zG) (A : Nat → Nat) (Y : zY) (x : Nat) (dd : Nat → Nat) (nw : Nat) (sz : Nat → Nat) (lt : Nat → Nat → Nat) (tx : Nat → Nat) (len : Nat) (hXD : XD Y nw sz lt tx len) (hdis : ∀ v, v < nw → Y 47 v = nI (dd v) ∧ dd v ≤ 100) (hx : x < nw) : ZI l yX1_rankOf cX1_rankOf 4 (.int) 3 67 G A Y [.ref (A 45), .int (nI x)] (fun r Y' => r = nI (cN (rkN sz lt dd x) nw) ∧ Y' = Y) := by
  refine ZI.enter (by decide) (Nat.le_of_ble_eq_true rfl) ?_
  intro p e s m args below meth c R Q hxx hbb S hK hfr hlo hret H ls hP hS hl
  have hB : ∀ q, zAd A q → zAd A q := fun _ h => h
  have hl : lv_has ls 4 [(0, .ref (A 45)), (1, .int (nI x))] := hl
  have S : CallFix p m c cX1_rankOf 4 s args wsL_law RX1 := S
  have hXD9 := hXD
  obtain ⟨hnw, hY45, hW, hL16⟩ := hXD
  have hlen := hL16.1
  have hKK : KXd Y Y := KXd.rf
  refine lv_iconst (v := nI 0) hxx hbb dX1_rankOf_0 (by decide) ?_
  refine lv_istore_n (lv' := [(2, .int (nI 0)), (0, .ref (A 45)), (1, .int (nI x))]) hxx hbb dX1_rankOf_1 rfl hl (by decide) rfl (fun ls hl => ?_)
  refine lv_iconst (v := nI 0) hxx hbb dX1_rankOf_2 (by decide) ?_
  refine lv_istore_n (lv' := [(3, .int (nI 0)), (2, .int (nI 0)), (0, .ref (A 45)), (1, .int (nI x))]) hxx hbb dX1_rankOf_3 rfl hl (by decide) rfl (fun ls hl => ?_)
  have L_4 : ∀ (N_4 : Nat) (z cc : Nat) (hzn : z ≤ nw) (hc : cc = cN (rkN sz lt dd x) z) (hcl : cc ≤ z), nw - z < N_4 → ∀ (H : Heap) (locs : List Loc) (ls : Array Slot), va_P G.1 vwCl (zW G A Y) H → va_S (zAd A) s.heap H locs → lv_has ls 4 [(0, .ref (A 45)), (1, .int (nI x)), (2, .int (nI cc)), (3, .int (nI z))] → W p l e R s m args below meth c H locs 0 0 Q (F0 m 4 ls []) := by
    intro N_4
    induction N_4 with
    | zero => intro z cc hzn hc hcl hm; exact absurd hm (Nat.not_lt_zero _)
    | succ N_4 ih_4 =>
      intro z cc hzn hc hcl hm_4 H locs ls hP hS hl
      refine lv_iload_n hxx hbb dX1_rankOf_4 rfl (lv_at hl 3 rfl) ?_
      refine lv_aload_n hxx hbb dX1_rankOf_5 rfl (lv_at hl 0 rfl) ?_
      refine zgX1_17 S hK hP 45 (by decide) zk_45 (v := nI nw) (hY45) dX1_rankOf_6 ?_
      refine zcmp_ge (tgt := 30) S (by omega) (by omega) dX1_rankOf_9 (by decide) (fun c_1 => ?_) (fun c_1 => ?_)
      · skip
        refine lv_iload_n hxx hbb dX1_rankOf_30 rfl (lv_at hl 2 rfl) ?_
        exact hret _ _ _ _ _ _ dX1_rankOf_31 (rfl) hP hS (⟨by rw [hc, show z = nw by omega], rfl⟩)
      · skip
        refine lv_aload_n hxx hbb dX1_rankOf_12 rfl (lv_at hl 0 rfl) ?_
        refine lv_iload_n hxx hbb dX1_rankOf_13 rfl (lv_at hl 3 rfl) ?_
        refine lv_iload_n hxx hbb dX1_rankOf_14 rfl (lv_at hl 1 rfl) ?_
        refine ZI.callV S hK hP hS hB (kX1_comesBefore l G A Y z x dd nw sz lt tx len hXD9 hdis (by omega) (by omega)) zwX1_73 zdX1_comesBefore rfl ⟨Nat.le_trans (by decide) hfr, Nat.le_trans (by decide) hlo⟩ (by decide) (zcK5 zk_45) rfl rfl (Nat.le_of_ble_eq_true rfl) hl.1 dX1_rankOf_15 ⟨Nat.zero_le _, Nat.zero_le _⟩ (fun r_2 Y_3 H locs hq_4 hP hS => ?_)
        rcases hq_4 with ⟨hb_5, hr9, hY9⟩ | ⟨hb_5, hr9, hY9⟩
        · skip
          subst hr9; rw [hY9] at hP
          refine zif_eq (tgt := 24) S (by omega) dX1_rankOf_18 (by decide) (fun c_6 => ?_) (fun c_6 => ?_)
          · skip
            exact absurd c_6 (by decide)
          · skip
            refine lv_iinc (v := nI (cc + 1)) (lv' := [(2, .int (nI (cc + 1))), (0, .ref (A 45)), (1, .int (nI x)), (3, .int (nI z))]) hxx hbb dX1_rankOf_21 hl (k := 2) rfl (zinc1 _) (by decide) rfl (fun ls hl => ?_)
            refine lv_iinc (v := nI (z + 1)) (lv' := [(3, .int (nI (z + 1))), (2, .int (nI (cc + 1))), (0, .ref (A 45)), (1, .int (nI x))]) hxx hbb dX1_rankOf_24 hl (k := 3) rfl (zinc1 _) (by decide) rfl (fun ls hl => ?_)
            refine lv_goto (tgt := 4) hxx hbb dX1_rankOf_27 (by decide) ?_
            exact ih_4 (z + 1) (cc + 1) (by omega) (by simp only [cN, ← hc]; rw [rkN_1 hb_5] <;> rfl) (by omega) (by omega) _ _ _ hP hS (lv_sub hl [2, 3, 1, 0] rfl)
        · skip
          subst hr9; rw [hY9] at hP
          refine zif_eq (tgt := 24) S (by omega) dX1_rankOf_18 (by decide) (fun c_7 => ?_) (fun c_7 => ?_)
          · skip
            refine lv_iinc (v := nI (z + 1)) (lv' := [(3, .int (nI (z + 1))), (0, .ref (A 45)), (1, .int (nI x)), (2, .int (nI cc))]) hxx hbb dX1_rankOf_24 hl (k := 3) rfl (zinc1 _) (by decide) rfl (fun ls hl => ?_)
            refine lv_goto (tgt := 4) hxx hbb dX1_rankOf_27 (by decide) ?_
            exact ih_4 (z + 1) cc (by omega) (by simp only [cN, ← hc]; rw [rkN_0 hb_5] <;> rfl) (by omega) (by omega) _ _ _ hP hS (lv_sub hl [1, 2, 3, 0] rfl)
          · skip
            exact absurd c_7 (by decide)
  exact L_4 (_ + 1) 0 0 (by omega) rfl (by omega) (Nat.lt_succ_self _) _ _ _ hP hS (lv_sub hl [2, 3, 1, 0] rfl)

set_option maxHeartbeats 4000000 in
set_option maxRecDepth 100000 in
theorem kX1_wordAtRank (l : Launch) (G : zG) (A : Nat → Nat) (Y : zY) (rr : Int32) (ex : Nat) (nw : Nat) (sz : Nat → Nat) (lt : Nat → Nat → Nat) (tx : Nat → Nat) (len : Nat) (hXD : XD Y nw sz lt tx len) (hex : ex ≤ 1) : ZI l yX1_wordAtRank cX1_wordAtRank 5 (.int) 4 97 G A Y [.ref (A 45), .int rr, .ref (A 16), .int (nI ex)] (fun r Y' => rkP (fun x => cN (rkN sz lt (fun w => dD (lt w) tx ex (sz w) len) x) nw) nw rr r ∧ KXd Y Y') := by
  refine ZI.enter (by decide) (Nat.le_of_ble_eq_true rfl) ?_
  intro p e s m args below meth c R Q hxx hbb S hK hfr hlo hret H ls hP hS hl
  have hB : ∀ q, zAd A q → zAd A q := fun _ h => h
  have hl : lv_has ls 5 [(0, .ref (A 45)), (1, .int rr), (2, .ref (A 16)), (3, .int (nI ex))] := hl
  have S : CallFix p m c cX1_wordAtRank 5 s args wsL_law RX1 := S
  have hXD9 := hXD
  obtain ⟨hnw, hY45, hW, hL16⟩ := hXD
  have hlen := hL16.1
  have hKK : KXd Y Y := KXd.rf
  obtain ⟨dd, hdd⟩ : ∃ dd : Nat → Nat, dd = fun w => dD (lt w) tx ex (sz w) len := ⟨_, rfl⟩
  have hddle : ∀ w, w < nw → dd w ≤ 100 := fun w hw => by have h1 := dD_le (a := lt w) (b := tx) (ex := ex) _ (sz w) len rfl; have h2 := hW w hw; rw [hdd]; show dD _ _ _ _ _ ≤ 100; omega
  refine lv_iconst (v := nI 0) hxx hbb dX1_wordAtRank_0 (by decide) ?_
  refine lv_istore (lv' := [(4, .int (nI 0)), (0, .ref (A 45)), (1, .int rr), (2, .ref (A 16)), (3, .int (nI ex))]) hxx hbb dX1_wordAtRank_1 hl (by decide) rfl (fun ls hl => ?_)
  have L_3 : ∀ (N_3 : Nat) (x : Nat) (Y1 : zY) (hxn : x ≤ nw) (hKK : KXd Y Y1) (hdis : ∀ v, v < x → Y1 47 v = nI (dd v)), nw - x < N_3 → ∀ (H : Heap) (locs : List Loc) (ls : Array Slot), va_P G.1 vwCl (zW G A Y1) H → va_S (zAd A) s.heap H locs → lv_has ls 5 [(0, .ref (A 45)), (1, .int rr), (2, .ref (A 16)), (3, .int (nI ex)), (4, .int (nI x))] → W p l e R s m args below meth c H locs 0 0 Q (F0 m 3 ls []) := by
    intro N_3
    induction N_3 with
    | zero => intro x Y1 hxn hKK hdis hm; exact absurd hm (Nat.not_lt_zero _)
    | succ N_3 ih_3 =>
      intro x Y1 hxn hKK hdis hm_3 H locs ls hP hS hl
      refine lv_iload hxx hbb dX1_wordAtRank_3 (lv_at hl 4 rfl) ?_
      refine lv_aload_n hxx hbb dX1_wordAtRank_5 rfl (lv_at hl 0 rfl) ?_
      refine zgX1_17 S hK hP 45 (by decide) zk_45 (v := nI nw) ((congrFun (hKK 45 (by omega) (by omega)) 1).trans hY45) dX1_wordAtRank_6 ?_
      refine zcmp_ge (tgt := 33) S (by omega) (by omega) dX1_wordAtRank_9 (by decide) (fun c_1 => ?_) (fun c_1 => ?_)
      · skip
        refine lv_iconst (v := nI 0) hxx hbb dX1_wordAtRank_33 (by decide) ?_
        refine lv_istore (lv' := [(4, .int (nI 0)), (0, .ref (A 45)), (1, .int rr), (2, .ref (A 16)), (3, .int (nI ex))]) hxx hbb dX1_wordAtRank_34 hl (by decide) rfl (fun ls hl => ?_)
        have L_36 : ∀ (N_36 : Nat) (x : Nat) (hxn2 : x ≤ nw) (hno : ∀ v, v < x → nI (cN (rkN sz lt dd v) nw) ≠ rr), nw - x < N_36 → ∀ (H : Heap) (locs : List Loc) (ls : Array Slot), va_P G.1 vwCl (zW G A Y1) H → va_S (zAd A) s.heap H locs → lv_has ls 5 [(0, .ref (A 45)), (1, .int rr), (2, .ref (A 16)), (3, .int (nI ex)), (4, .int (nI x))] → W p l e R s m args below meth c H locs 0 0 Q (F0 m 36 ls []) := by
          intro N_36
          induction N_36 with
          | zero => intro x hxn2 hno hm; exact absurd hm (Nat.not_lt_zero _)
          | succ N_36 ih_36 =>
            intro x hxn2 hno hm_36 H locs ls hP hS hl
            try (have hdis : ∀ v, v < nw → Y1 47 v = nI (dd v) := fun v hv => hdis v (by omega))
            refine lv_iload hxx hbb dX1_wordAtRank_36 (lv_at hl 4 rfl) ?_
            refine lv_aload_n hxx hbb dX1_wordAtRank_38 rfl (lv_at hl 0 rfl) ?_
            refine zgX1_17 S hK hP 45 (by decide) zk_45 (v := nI nw) ((congrFun (hKK 45 (by omega) (by omega)) 1).trans hY45) dX1_wordAtRank_39 ?_
            refine zcmp_ge (tgt := 64) S (by omega) (by omega) dX1_wordAtRank_42 (by decide) (fun c_2 => ?_) (fun c_2 => ?_)
            · skip
              refine lv_iconst (v := (-1)) hxx hbb dX1_wordAtRank_64 (by decide) ?_
              exact hret _ _ _ _ _ _ dX1_wordAtRank_65 (rfl) hP hS (⟨Or.inr ⟨by rw [← hdd]; exact fun v hv => hno v (by omega), rfl⟩, hKK⟩)
            · skip
              refine lv_aload_n hxx hbb dX1_wordAtRank_45 rfl (lv_at hl 0 rfl) ?_
              refine lv_iload hxx hbb dX1_wordAtRank_46 (lv_at hl 4 rfl) ?_
              refine ZI.callV S hK hP hS hB (kX1_rankOf l G A Y1 x dd nw sz lt tx len (hXD9.keep hKK) (fun v hv => ⟨hdis v hv, hddle v hv⟩) (by omega)) zwX1_69 zdX1_rankOf rfl ⟨Nat.le_trans (by decide) hfr, Nat.le_trans (by decide) hlo⟩ (by decide) (zcK5 zk_45) rfl rfl (Nat.le_of_ble_eq_true rfl) hl.1 dX1_wordAtRank_48 ⟨Nat.zero_le _, Nat.zero_le _⟩ (fun r_3 Y_4 H locs hq_5 hP hS => ?_)
              obtain ⟨hr9, hY9⟩ := hq_5
              subst hr9; rw [hY9] at hP
              have hcn := cN_le (f := rkN sz lt dd x) (fun _ => rkN_le) nw
              refine lv_iload_n hxx hbb dX1_wordAtRank_51 rfl (lv_at hl 1 rfl) ?_
              refine lv_icmp_ne (tgt := 58) hxx hbb dX1_wordAtRank_52 (by decide) (fun c_6 => ?_) (fun c_6 => ?_)
              · skip
                refine lv_iinc (v := nI (x + 1)) (lv' := [(4, .int (nI (x + 1))), (0, .ref (A 45)), (1, .int rr), (2, .ref (A 16)), (3, .int (nI ex))]) hxx hbb dX1_wordAtRank_58 hl (k := 4) rfl (zinc1 _) (by decide) rfl (fun ls hl => ?_)
                refine lv_goto (tgt := 36) hxx hbb dX1_wordAtRank_61 (by decide) ?_
                exact ih_36 (x + 1) (by omega) (fun v hv => (Nat.lt_succ_iff_lt_or_eq.mp hv).elim (hno v) (fun e => by rw [e]; exact c_6)) (by omega) _ _ _ hP hS (lv_sub hl [1, 2, 3, 4, 0] rfl)
              · skip
                refine lv_iload hxx hbb dX1_wordAtRank_55 (lv_at hl 4 rfl) ?_
                exact hret _ _ _ _ _ _ dX1_wordAtRank_57 (rfl) hP hS (⟨Or.inl ⟨x, by omega, by rw [← hdd]; exact c_6, by rw [← hdd]; exact hno, rfl⟩, hKK⟩)
        exact L_36 (_ + 1) 0 (by omega) (fun v hv => absurd hv (by omega)) (Nat.lt_succ_self _) _ _ _ hP hS (lv_sub hl [1, 2, 3, 4, 0] rfl)
      · skip
        refine lv_aload_n hxx hbb dX1_wordAtRank_12 rfl (lv_at hl 0 rfl) ?_
        refine zgX1_21 S hK hP 45 (by decide) zk_45 dX1_wordAtRank_13 ?_
        refine lv_iload hxx hbb dX1_wordAtRank_16 (lv_at hl 4 rfl) ?_
        refine lv_aload_n hxx hbb dX1_wordAtRank_18 rfl (lv_at hl 0 rfl) ?_
        refine lv_iload hxx hbb dX1_wordAtRank_19 (lv_at hl 4 rfl) ?_
        refine lv_aload_n hxx hbb dX1_wordAtRank_21 rfl (lv_at hl 2 rfl) ?_
        refine lv_iload_n hxx hbb dX1_wordAtRank_22 rfl (lv_at hl 3 rfl) ?_
        refine ZI.callV S hK hP hS hB (kX1_distanceOf l G A Y1 (nI x) ex nw sz lt tx len (hXD9.keep hKK) (by omega)) zwX1_65 zdX1_distanceOf rfl ⟨Nat.le_trans (by decide) hfr, Nat.le_trans (by decide) hlo⟩ (by decide) (zcK5 zk_45) rfl rfl (Nat.le_of_ble_eq_true rfl) hl.1 dX1_wordAtRank_23 ⟨Nat.zero_le _, Nat.zero_le _⟩ (fun r_7 Y_8 H locs hq_9 hP hS => ?_)
        obtain ⟨hr9, hk9, h479⟩ := hq_9
        have hKK := hKK.trans hk9
        have hxx9 : x < nw := by omega
        have hr9 := hr9.trans (dA_nat (by omega) hnw)
        have hr9 := hr9.trans (show _ = nI (dd x) by rw [hdd])
        have hd9 := hddle x hxx9
        subst hr9
        have w47 := fun v => congrFun h479 v
        refine zastN S hK hP hS hB 47 20 (by decide) zk_47 zl_47 (by omega) dX1_wordAtRank_26 (fun H locs hP hS => ?_)
        refine lv_iinc (v := nI (x + 1)) (lv' := [(4, .int (nI (x + 1))), (0, .ref (A 45)), (1, .int rr), (2, .ref (A 16)), (3, .int (nI ex))]) hxx hbb dX1_wordAtRank_27 hl (k := 4) rfl (zinc1 _) (by decide) rfl (fun ls hl => ?_)
        refine lv_goto (tgt := 3) hxx hbb dX1_wordAtRank_30 (by decide) ?_
        exact ih_3 (x + 1) (zU Y_8 47 x (nI (dd x))) (by omega) hKK.dis (fun v hv => (Nat.lt_succ_iff_lt_or_eq.mp hv).elim (fun h => (zU_nj (by omega)).trans ((w47 v).trans (hdis v h))) (fun e => by rw [e]; exact zU_eq)) (by omega) _ _ _ hP hS (lv_sub hl [1, 2, 3, 4, 0] rfl)
  exact L_3 (_ + 1) 0 Y (by omega) hKK (fun v hv => absurd hv (by omega)) (Nat.lt_succ_self _) _ _ _ hP hS (lv_sub hl [1, 2, 3, 4, 0] rfl)

set_option maxHeartbeats 4000000 in
set_option maxRecDepth 100000 in
theorem kX1_holds (l : Launch) (G : zG) (A : Nat → Nat) (Y : zY) (nw : Nat) (sz : Nat → Nat) (lt : Nat → Nat → Nat) (tx : Nat → Nat) (len : Nat) (hXD : XD Y nw sz lt tx len) : ZI l yX1_holds cX1_holds 3 (.boolean) 2 45 G A Y [.ref (A 45), .ref (A 16)] (fun r Y' => ((∃ w, w < nw ∧ sz w = len ∧ ∀ i, i < sz w → lt w i = tx i) ∧ r = nI 1 ∧ Y' = Y) ∨ (¬ (∃ w, w < nw ∧ sz w = len ∧ ∀ i, i < sz w → lt w i = tx i) ∧ r = nI 0 ∧ Y' = Y)) := by
  refine ZI.enter (by decide) (Nat.le_of_ble_eq_true rfl) ?_
  intro p e s m args below meth c R Q hxx hbb S hK hfr hlo hret H ls hP hS hl
  have hB : ∀ q, zAd A q → zAd A q := fun _ h => h
  have hl : lv_has ls 3 [(0, .ref (A 45)), (1, .ref (A 16))] := hl
  have S : CallFix p m c cX1_holds 3 s args wsL_law RX1 := S
  have hXD9 := hXD
  obtain ⟨hnw, hY45, hW, hL16⟩ := hXD
  have hlen := hL16.1
  have hKK : KXd Y Y := KXd.rf
  refine lv_iconst (v := nI 0) hxx hbb dX1_holds_0 (by decide) ?_
  refine lv_istore_n (lv' := [(2, .int (nI 0)), (0, .ref (A 45)), (1, .ref (A 16))]) hxx hbb dX1_holds_1 rfl hl (by decide) rfl (fun ls hl => ?_)
  have L_2 : ∀ (N_2 : Nat) (x : Nat) (hxn : x ≤ nw) (hno : ∀ v, v < x → ¬ (sz v = len ∧ ∀ i, i < sz v → lt v i = tx i)), nw - x < N_2 → ∀ (H : Heap) (locs : List Loc) (ls : Array Slot), va_P G.1 vwCl (zW G A Y) H → va_S (zAd A) s.heap H locs → lv_has ls 3 [(0, .ref (A 45)), (1, .ref (A 16)), (2, .int (nI x))] → W p l e R s m args below meth c H locs 0 0 Q (F0 m 2 ls []) := by
    intro N_2
    induction N_2 with
    | zero => intro x hxn hno hm; exact absurd hm (Nat.not_lt_zero _)
    | succ N_2 ih_2 =>
      intro x hxn hno hm_2 H locs ls hP hS hl
      refine lv_iload_n hxx hbb dX1_holds_2 rfl (lv_at hl 2 rfl) ?_
      refine lv_aload_n hxx hbb dX1_holds_3 rfl (lv_at hl 0 rfl) ?_
      refine zgX1_17 S hK hP 45 (by decide) zk_45 (v := nI nw) (hY45) dX1_holds_4 ?_
      refine zcmp_ge (tgt := 31) S (by omega) (by omega) dX1_holds_7 (by decide) (fun c_1 => ?_) (fun c_1 => ?_)
      · skip
        refine lv_iconst (v := nI 0) hxx hbb dX1_holds_31 (by decide) ?_
        exact hret _ _ _ _ _ _ dX1_holds_32 (by first | rfl | decide) hP hS (Or.inr ⟨fun ⟨v, h1, h2⟩ => hno v (by omega) h2, rfl, rfl⟩)
      · skip
        refine lv_aload_n hxx hbb dX1_holds_10 rfl (lv_at hl 0 rfl) ?_
        refine zgX1_11 S hK hP 45 (by decide) zk_45 dX1_holds_11 ?_
        refine lv_iload_n hxx hbb dX1_holds_14 rfl (lv_at hl 2 rfl) ?_
        refine zaldq46 S hK hP (by omega) dX1_holds_15 ?_
        refine lv_aload_n hxx hbb dX1_holds_16 rfl (lv_at hl 1 rfl) ?_
        refine ZI.callVN S hK hP hS hB (kX3_compareWith l G A Y (62 + 2 * x) 16 (sz x) len (lt x) tx (zLP_word (by omega)) zLP_text (hW x (by omega)).1 hL16) (znX1_40) zwX1_40 zdX3_compareWith rfl ⟨Nat.le_trans (by decide) hfr, Nat.le_trans (by decide) hlo⟩ (by omega) (zcK3 (zk_let (by omega))) rfl rfl (Nat.le_of_ble_eq_true rfl) hl.1 dX1_holds_17 ⟨Nat.zero_le _, Nat.zero_le _⟩ (fun r_2 Y_3 H locs hq_4 hP hS => ?_)
        obtain ⟨hcw_5, hY9⟩ := hq_4
        rw [hY9] at hP
        refine lv_if_ne (tgt := 25) hxx hbb dX1_holds_20 (by decide) (fun c_6 => ?_) (fun c_6 => ?_)
        · skip
          refine lv_iinc (v := nI (x + 1)) (lv' := [(2, .int (nI (x + 1))), (0, .ref (A 45)), (1, .ref (A 16))]) hxx hbb dX1_holds_25 hl (k := 2) rfl (zinc1 _) (by decide) rfl (fun ls hl => ?_)
          refine lv_goto (tgt := 2) hxx hbb dX1_holds_28 (by decide) ?_
          exact ih_2 (x + 1) (by omega) (fun v hv => (Nat.lt_succ_iff_lt_or_eq.mp hv).elim (hno v) (fun e => by rw [e]; exact fun z => c_6 ((CW_eq hcw_5).mpr z))) (by omega) _ _ _ hP hS (lv_sub hl [1, 2, 0] rfl)
        · skip
          refine lv_iconst (v := nI 1) hxx hbb dX1_holds_23 (by decide) ?_
          exact hret _ _ _ _ _ _ dX1_holds_24 (by first | rfl | decide) hP hS (Or.inl ⟨⟨x, by omega, (CW_eq hcw_5).mp c_6⟩, rfl, rfl⟩)
  exact L_2 (_ + 1) 0 (by omega) (fun v hv => absurd hv (by omega)) (Nat.lt_succ_self _) _ _ _ hP hS (lv_sub hl [1, 2, 0] rfl)

set_option maxHeartbeats 4000000 in
set_option maxRecDepth 100000 in
theorem kX1_keep (l : Launch) (G : zG) (A : Nat → Nat) (Y : zY) (nw : Nat) (sz : Nat → Nat) (lt : Nat → Nat → Nat) (tx : Nat → Nat) (len : Nat) (hXD : XD Y nw sz lt tx len) : ZI l yX1_keep cX1_keep 3 (.int) 3 67 G A Y [.ref (A 45), .ref (A 16)] (fun r Y' => (r = -1 ∧ Y' = Y ∧ (len = 0 ∨ 12 < len ∨ nw = 20 ∨ ∃ w, w < nw ∧ sz w = len ∧ ∀ i, i < sz w → lt w i = tx i)) ∨ (r = nI nw ∧ 0 < len ∧ len ≤ 12 ∧ nw < 20 ∧ ¬ (∃ w, w < nw ∧ sz w = len ∧ ∀ i, i < sz w → lt w i = tx i) ∧ ∃ Y1, Y' = zU Y1 45 1 (nI (nw + 1)) ∧ LT Y1 (62 + 2 * nw) len tx ∧ KL Y Y1 (62 + 2 * nw))) := by
  refine ZI.enter (by decide) (Nat.le_of_ble_eq_true rfl) ?_
  intro p e s m args below meth c R Q hxx hbb S hK hfr hlo hret H ls hP hS hl
  have hB : ∀ q, zAd A q → zAd A q := fun _ h => h
  have hl : lv_has ls 3 [(0, .ref (A 45)), (1, .ref (A 16))] := hl
  have S : CallFix p m c cX1_keep 3 s args wsL_law RX1 := S
  have hXD9 := hXD
  obtain ⟨hnw, hY45, hW, hL16⟩ := hXD
  have hlen := hL16.1
  have hKK : KXd Y Y := KXd.rf
  refine lv_aload_n hxx hbb dX1_keep_0 rfl (lv_at hl 1 rfl) ?_
  refine zgX1_31 S hK hP 16 (by decide) zk_16 (v := nI len) (hL16.2.1) dX1_keep_1 ?_
  refine lv_iconst (v := nI 1) hxx hbb dX1_keep_4 (by decide) ?_
  refine zcmp_lt (tgt := 30) S (by omega) (by omega) dX1_keep_5 (by decide) (fun c_1 => ?_) (fun c_1 => ?_)
  · skip
    refine lv_iconst (v := nI 0) hxx hbb dX1_keep_30 (by decide) ?_
    refine lv_istore_n (lv' := [(2, .int (nI 0)), (0, .ref (A 45)), (1, .ref (A 16))]) hxx hbb dX1_keep_31 rfl hl (by decide) rfl (fun ls hl => ?_)
    refine lv_iload_n hxx hbb dX1_keep_32 rfl (lv_at hl 0 rfl) ?_
    refine zif_eq (tgt := 44) S (by omega) dX1_keep_33 (by decide) (fun c_2 => ?_) (fun c_2 => ?_)
    · skip
      refine lv_iconst (v := (-1)) hxx hbb dX1_keep_44 (by decide) ?_
      exact hret _ _ _ _ _ _ dX1_keep_45 (rfl) hP hS (Or.inl ⟨rfl, rfl, by omega⟩)
    · skip
      exact absurd c_2 (by decide)
  · skip
    refine lv_aload_n hxx hbb dX1_keep_8 rfl (lv_at hl 1 rfl) ?_
    refine zgX1_31 S hK hP 16 (by decide) zk_16 (v := nI len) (hL16.2.1) dX1_keep_9 ?_
    refine lv_bipush (v := nI 12) hxx hbb dX1_keep_12 (by decide) ?_
    refine zcmp_gt (tgt := 30) S (by omega) (by omega) dX1_keep_14 (by decide) (fun c_3 => ?_) (fun c_3 => ?_)
    · skip
      refine lv_iconst (v := nI 0) hxx hbb dX1_keep_30 (by decide) ?_
      refine lv_istore_n (lv' := [(2, .int (nI 0)), (0, .ref (A 45)), (1, .ref (A 16))]) hxx hbb dX1_keep_31 rfl hl (by decide) rfl (fun ls hl => ?_)
      refine lv_iload_n hxx hbb dX1_keep_32 rfl (lv_at hl 0 rfl) ?_
      refine zif_eq (tgt := 44) S (by omega) dX1_keep_33 (by decide) (fun c_4 => ?_) (fun c_4 => ?_)
      · skip
        refine lv_iconst (v := (-1)) hxx hbb dX1_keep_44 (by decide) ?_
        exact hret _ _ _ _ _ _ dX1_keep_45 (rfl) hP hS (Or.inl ⟨rfl, rfl, by omega⟩)
      · skip
        exact absurd c_4 (by decide)
    · skip
      refine lv_aload_n hxx hbb dX1_keep_17 rfl (lv_at hl 0 rfl) ?_
      refine zgX1_17 S hK hP 45 (by decide) zk_45 (v := nI nw) (hY45) dX1_keep_18 ?_
      refine lv_bipush (v := nI 20) hxx hbb dX1_keep_21 (by decide) ?_
      refine zcmp_ge (tgt := 30) S (by omega) (by omega) dX1_keep_23 (by decide) (fun c_5 => ?_) (fun c_5 => ?_)
      · skip
        refine lv_iconst (v := nI 0) hxx hbb dX1_keep_30 (by decide) ?_
        refine lv_istore_n (lv' := [(2, .int (nI 0)), (0, .ref (A 45)), (1, .ref (A 16))]) hxx hbb dX1_keep_31 rfl hl (by decide) rfl (fun ls hl => ?_)
        refine lv_iload_n hxx hbb dX1_keep_32 rfl (lv_at hl 0 rfl) ?_
        refine zif_eq (tgt := 44) S (by omega) dX1_keep_33 (by decide) (fun c_6 => ?_) (fun c_6 => ?_)
        · skip
          refine lv_iconst (v := (-1)) hxx hbb dX1_keep_44 (by decide) ?_
          exact hret _ _ _ _ _ _ dX1_keep_45 (rfl) hP hS (Or.inl ⟨rfl, rfl, by omega⟩)
        · skip
          exact absurd c_6 (by decide)
      · skip
        refine lv_iconst (v := nI 1) hxx hbb dX1_keep_26 (by decide) ?_
        refine lv_goto (tgt := 31) hxx hbb dX1_keep_27 (by decide) ?_
        refine lv_istore_n (lv' := [(2, .int (nI 1)), (0, .ref (A 45)), (1, .ref (A 16))]) hxx hbb dX1_keep_31 rfl hl (by decide) rfl (fun ls hl => ?_)
        refine lv_iload_n hxx hbb dX1_keep_32 rfl (lv_at hl 0 rfl) ?_
        refine zif_eq (tgt := 44) S (by omega) dX1_keep_33 (by decide) (fun c_7 => ?_) (fun c_7 => ?_)
        · skip
          exact absurd c_7 (by decide)
        · skip
          refine lv_aload_n hxx hbb dX1_keep_36 rfl (lv_at hl 1 rfl) ?_
          refine lv_aload_n hxx hbb dX1_keep_37 rfl (lv_at hl 2 rfl) ?_
          refine ZI.callV S hK hP hS hB (kX1_holds l G A Y nw sz lt tx len hXD9) zwX1_32 zdX1_holds rfl ⟨Nat.le_trans (by decide) hfr, Nat.le_trans (by decide) hlo⟩ (by decide) (zcK5 zk_45) rfl rfl (Nat.le_of_ble_eq_true rfl) hl.1 dX1_keep_38 ⟨Nat.zero_le _, Nat.zero_le _⟩ (fun r_8 Y_9 H locs hq_10 hP hS => ?_)
          rcases hq_10 with ⟨hb_11, hr9, hY9⟩ | ⟨hb_11, hr9, hY9⟩
          · skip
            subst hr9; rw [hY9] at hP
            refine zif_eq (tgt := 46) S (by omega) dX1_keep_41 (by decide) (fun c_12 => ?_) (fun c_12 => ?_)
            · skip
              exact absurd c_12 (by decide)
            · skip
              refine lv_iconst (v := (-1)) hxx hbb dX1_keep_44 (by decide) ?_
              exact hret _ _ _ _ _ _ dX1_keep_45 (rfl) hP hS (Or.inl ⟨rfl, rfl, Or.inr (Or.inr (Or.inr hb_11))⟩)
          · skip
            subst hr9; rw [hY9] at hP
            refine zif_eq (tgt := 46) S (by omega) dX1_keep_41 (by decide) (fun c_13 => ?_) (fun c_13 => ?_)
            · skip
              refine lv_aload_n hxx hbb dX1_keep_46 rfl (lv_at hl 1 rfl) ?_
              refine zgX1_11 S hK hP 45 (by decide) zk_45 dX1_keep_47 ?_
              refine lv_aload_n hxx hbb dX1_keep_50 rfl (lv_at hl 1 rfl) ?_
              refine zgX1_17 S hK hP 45 (by decide) zk_45 (v := nI nw) (hY45) dX1_keep_51 ?_
              refine zaldq46 S hK hP (by omega) dX1_keep_54 ?_
              refine lv_aload_n hxx hbb dX1_keep_55 rfl (lv_at hl 2 rfl) ?_
              refine ZV.callVN S hK hP hS hB (kX3_copyFrom l G A Y (62 + 2 * nw) 16 len tx (zLP_word (by omega)) zLP_text (by omega) hL16) (znX1_36) zwX1_36 zdX3_copyFrom rfl ⟨Nat.le_trans (by decide) hfr, Nat.le_trans (by decide) hlo⟩ (by omega) (zcK3 (zk_let (by omega))) rfl rfl (Nat.le_of_ble_eq_true rfl) hl.1 dX1_keep_56 ⟨Nat.zero_le _, Nat.zero_le _⟩ (fun Y_15 H locs hq_16 hP hS => ?_)
              obtain ⟨hcp, hkl⟩ := hq_16
              refine lv_aload_n hxx hbb dX1_keep_59 rfl (lv_at hl 1 rfl) ?_
              refine lv_dup hxx hbb dX1_keep_60 rfl ?_
              refine zgX1_17 S hK hP 45 (by decide) zk_45 (v := nI nw) ((congrFun (hkl 45 (by omega) (by omega)) 1).trans hY45) dX1_keep_61 ?_
              refine lv_iconst (v := nI 1) hxx hbb dX1_keep_64 (by decide) ?_
              refine zaddN S dX1_keep_65 ?_
              refine zpX1_17 S hK hP hS hB 45 (by decide) zk_45 dX1_keep_66 (fun H locs hP hS => ?_)
              refine lv_aload_n hxx hbb dX1_keep_69 rfl (lv_at hl 1 rfl) ?_
              refine zgX1_17 S hK hP 45 (by decide) zk_45 (v := nI (nw + 1)) (zU_eq) dX1_keep_70 ?_
              refine lv_iconst (v := nI 1) hxx hbb dX1_keep_73 (by decide) ?_
              refine zsubN S (by omega) dX1_keep_74 ?_
              exact hret _ _ _ _ _ _ dX1_keep_75 (rfl) hP hS (Or.inr ⟨by rw [Nat.add_sub_cancel], by omega, by omega, by omega, hb_11, _, rfl, hcp, hkl⟩)
            · skip
              exact absurd c_13 (by decide)
