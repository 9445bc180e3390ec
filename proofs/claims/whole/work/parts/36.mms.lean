/-! ===== the reference's stacks, as the abstract reader has them ===== -/
def b1 (x : Nat) : Nat := if x = 0 then 0 else 1
theorem b1_0 {x : Nat} (h : x = 0) : b1 x = 0 := if_pos h
theorem b1_p {x : Nat} (h : x ≠ 0) : b1 x = 1 := if_neg h
theorem b1_le (x : Nat) : b1 x ≤ 1 := by unfold b1; split <;> omega
def wb (S : nY) : Nat → Nat
  | 0 => 0
  | e + 1 => wb S e + b1 (S 6 e) + b1 (S 5 e)
def qb (S : nY) : Nat → Nat
  | 0 => 0
  | e + 1 => qb S e + b1 (S 6 e) + b1 (S 5 e) + 1
def wT (S : nY) : Nat := wb S (S 0 1) + b1 (S 6 (S 0 1)) + b1 (S 5 (S 0 1))
def qT (S : nY) : Nat := qb S (S 0 1) + b1 (S 6 (S 0 1)) + b1 (S 5 (S 0 1))
theorem wb_cg {S T : nY} {n : Nat} (h : ∀ e, e < n → T 5 e = S 5 e ∧ T 6 e = S 6 e) : ∀ k, k ≤ n → wb T k = wb S k ∧ qb T k = qb S k
  | 0, _ => ⟨rfl, rfl⟩
  | k + 1, hk => by
    obtain ⟨h1, h2⟩ := wb_cg h k (by omega)
    obtain ⟨h3, h4⟩ := h k (by omega)
    exact ⟨by show wb T k + b1 (T 6 k) + b1 (T 5 k) = _; rw [h1, h3, h4]; rfl, by show qb T k + b1 (T 6 k) + b1 (T 5 k) + 1 = _; rw [h2, h3, h4]; rfl⟩
theorem wb_le {S : nY} : ∀ e, wb S e ≤ 2 * e ∧ qb S e ≤ 3 * e
  | 0 => ⟨Nat.le_refl _, Nat.le_refl _⟩
  | e + 1 => by
    have := wb_le (S := S) e
    have h1 := b1_le (S 6 e); have h2 := b1_le (S 5 e)
    show wb S e + b1 (S 6 e) + b1 (S 5 e) ≤ _ ∧ qb S e + b1 (S 6 e) + b1 (S 5 e) + 1 ≤ _
    omega
theorem wb_mono {S : nY} {e : Nat} : ∀ d, e ≤ d → wb S e ≤ wb S d ∧ qb S e ≤ qb S d
  | 0, h => by
    have : e = 0 := by omega
    subst this; exact ⟨Nat.le_refl _, Nat.le_refl _⟩
  | d + 1, h => by
    by_cases g : e = d + 1
    · subst g; exact ⟨Nat.le_refl _, Nat.le_refl _⟩
    · have := wb_mono (S := S) (e := e) d (by omega)
      show _ ≤ wb S d + b1 (S 6 d) + b1 (S 5 d) ∧ _ ≤ qb S d + b1 (S 6 d) + b1 (S 5 d) + 1
      omega
def FRM (Y : zY) (S : nY) (e : Nat) : Prop := (S 6 e ≠ 0 → Y 111 (wb S e) = nI (S 6 e - 1) ∧ Y 110 (qb S e) = nI 2) ∧ (S 5 e ≠ 0 → Y 111 (wb S e + b1 (S 6 e)) = nI (S 5 e - 1) ∧ Y 110 (qb S e + b1 (S 6 e)) = nI 1)
def NR (Y : zY) (S : nY) : Prop := Y 102 6 = nI (S 0 2) ∧ ∀ n, n < S 0 2 → Y 107 n = nI (S 1 n) ∧ Y 108 n = nI (S 2 n) ∧ Y 109 n = nI (S 3 n)
def MS (N : Nat) (Y : zY) (S : nY) (lv : Nat) : Prop := NR Y S ∧ (Y 102 10 = nI (qT S) ∧ Y 102 12 = nI (wT S + lv)) ∧ (∀ e, e < S 0 1 → FRM Y S e ∧ Y 110 (qb S e + b1 (S 6 e) + b1 (S 5 e)) = nI 7) ∧ FRM Y S (S 0 1) ∧ (lv = 1 → Y 111 (wT S) = nI (S 4 (S 0 1) - 1)) ∧ S 0 2 + wT S + lv ≤ N
theorem FRM.cg {Y Z : zY} {S T : nY} {e : Nat} (h : FRM Y S e) (h5 : T 5 e = S 5 e) (h6 : T 6 e = S 6 e) (hw : wb T e = wb S e) (hq : qb T e = qb S e) (g1 : ∀ j, j < wb S e + b1 (S 6 e) + b1 (S 5 e) → Z 111 j = Y 111 j) (g0 : ∀ j, j < qb S e + b1 (S 6 e) + b1 (S 5 e) → Z 110 j = Y 110 j) : FRM Z T e := by
  unfold FRM
  rw [h5, h6, hw, hq]
  refine ⟨fun a => ?_, fun a => ?_⟩
  · have := b1_p a
    rw [g1 _ (by omega), g0 _ (by omega)]; exact h.1 a
  · have := b1_p a
    rw [g1 _ (by omega), g0 _ (by omega)]; exact h.2 a
theorem MS.mk {N N' lv lv' : Nat} {Y Z : zY} {S T : nY} (h : MS N Y S lv) (hd : T 0 1 = S 0 1) (hr : ∀ e, e < S 0 1 → T 5 e = S 5 e ∧ T 6 e = S 6 e) (g1 : ∀ j, j < wb S (S 0 1) → Z 111 j = Y 111 j) (g0 : ∀ j, j < qb S (S 0 1) → Z 110 j = Y 110 j) (hN : NR Z T)
    (hq : Z 102 10 = nI (qb S (S 0 1) + b1 (T 6 (S 0 1)) + b1 (T 5 (S 0 1)))) (hw : Z 102 12 = nI (wb S (S 0 1) + b1 (T 6 (S 0 1)) + b1 (T 5 (S 0 1)) + lv'))
    (h6 : T 6 (S 0 1) ≠ 0 → Z 111 (wb S (S 0 1)) = nI (T 6 (S 0 1) - 1) ∧ Z 110 (qb S (S 0 1)) = nI 2) (h5 : T 5 (S 0 1) ≠ 0 → Z 111 (wb S (S 0 1) + b1 (T 6 (S 0 1))) = nI (T 5 (S 0 1) - 1) ∧ Z 110 (qb S (S 0 1) + b1 (T 6 (S 0 1))) = nI 1)
    (hl : lv' = 1 → Z 111 (wb S (S 0 1) + b1 (T 6 (S 0 1)) + b1 (T 5 (S 0 1))) = nI (T 4 (S 0 1) - 1)) (hs : T 0 2 + (wb S (S 0 1) + b1 (T 6 (S 0 1)) + b1 (T 5 (S 0 1))) + lv' ≤ N') : MS N' Z T lv' := by
  obtain ⟨-, -, hf, -, -, -⟩ := h
  have hc := wb_cg hr (S 0 1) (Nat.le_refl _)
  unfold MS wT qT FRM
  rw [hd, hc.1, hc.2]
  refine ⟨hN, ⟨hq, hw⟩, fun e he => ?_, ⟨h6, h5⟩, hl, hs⟩
  have hce := wb_cg hr e (by omega)
  obtain ⟨r5, r6⟩ := hr e he
  have hm := wb_mono (S := S) (e := e + 1) (S 0 1) he
  have hm1 : wb S (e + 1) = wb S e + b1 (S 6 e) + b1 (S 5 e) := rfl
  have hm2 : qb S (e + 1) = qb S e + b1 (S 6 e) + b1 (S 5 e) + 1 := rfl
  refine ⟨(hf e he).1.cg r5 r6 hce.1 hce.2 (fun j hj => g1 j (by omega)) (fun j hj => g0 j (by omega)), ?_⟩
  rw [hce.2, r5, r6, g0 _ (by omega)]; exact (hf e he).2
theorem MS.cg {N N' lv : Nat} {Y : zY} {S T : nY} (h : MS N Y S lv) (hN : N ≤ N') (hd : T 0 1 = S 0 1) (hc : T 0 2 = S 0 2) (e1 : T 1 = S 1) (e2 : T 2 = S 2) (e3 : T 3 = S 3) (hr : ∀ e, e ≤ S 0 1 → T 5 e = S 5 e ∧ T 6 e = S 6 e) (hl : lv = 1 → T 4 (S 0 1) = S 4 (S 0 1)) : MS N' Y T lv := by
  have h' := h
  obtain ⟨hn, ⟨q1, q2⟩, hf, ⟨f6, f5⟩, hlv, hs⟩ := h
  obtain ⟨r5, r6⟩ := hr _ (Nat.le_refl _)
  unfold wT at q2 hlv hs
  unfold qT at q1
  refine h'.mk hd (fun e he => hr e (by omega)) (fun _ _ => rfl) (fun _ _ => rfl) ?_ ?_ ?_ ?_ ?_ ?_ ?_
  · unfold NR; rw [hc, e1, e2, e3]; exact hn
  · rw [r5, r6]; exact q1
  · rw [r5, r6]; exact q2
  · rw [r6]; exact f6
  · rw [r5, r6]; exact f5
  · rw [r5, r6]; exact fun g => by rw [hl g]; exact hlv g
  · rw [r5, r6, hc]; omega
/-- what make does -/
def MKp (Y Z : zY) (f w : Nat) (k l r : Int32) : Prop := (∀ q, q ≠ 102 → q ≠ 107 → q ≠ 108 → q ≠ 109 → q ≠ 111 → Z q = Y q) ∧ (Z 102 6 = nI (f + 1) ∧ Z 102 12 = nI (w + 1) ∧ ∀ j, j ≠ 6 → j ≠ 12 → Z 102 j = Y 102 j) ∧ (Z 107 f = k ∧ Z 108 f = l ∧ Z 109 f = r ∧ Z 111 w = nI f) ∧ (∀ j, j ≠ f → Z 107 j = Y 107 j ∧ Z 108 j = Y 108 j ∧ Z 109 j = Y 109 j) ∧ ∀ j, j ≠ w → Z 111 j = Y 111 j
theorem MKp.is {Y : zY} {f w : Nat} {k l r : Int32} : MKp Y (zU (zU (zU (zU (zU (zU Y 107 f k) 108 f l) 109 f r) 111 w (nI f)) 102 12 (nI (w + 1))) 102 6 (nI (f + 1))) f w k l r := by
  refine ⟨fun q h1 h2 h3 h4 h5 => ?_, ⟨?_, ?_, fun j h1 h2 => ?_⟩, ⟨?_, ?_, ?_, ?_⟩, fun j h => ⟨?_, ?_, ?_⟩, fun j h => ?_⟩
  · rw [zU_row h1, zU_row h1, zU_row h5, zU_row h4, zU_row h3, zU_row h2]
  all_goals simp [zU, *]
theorem NR.put {Y Z : zY} {S : nY} {w k l r : Nat} (h : NR Y S) (m : MKp Y Z (S 0 2) w (nI k) (nI l) (nI r)) : NR Z (sPut S k l r) := by
  refine ⟨by rw [sPut_n]; exact m.2.1.1, fun n hn => ?_⟩
  rw [sPut_n] at hn
  by_cases g : n = S 0 2
  · subst g
    have s1 : sPut S k l r 1 (S 0 2) = k := by simp [sPut, nU]
    have s2 : sPut S k l r 2 (S 0 2) = l := by simp [sPut, nU]
    have s3 : sPut S k l r 3 (S 0 2) = r := by simp [sPut, nU]
    rw [s1, s2, s3]; exact ⟨m.2.2.1.1, m.2.2.1.2.1, m.2.2.1.2.2.1⟩
  · have s1 : sPut S k l r 1 n = S 1 n := by simp [sPut, nU, g]
    have s2 : sPut S k l r 2 n = S 2 n := by simp [sPut, nU, g]
    have s3 : sPut S k l r 3 n = S 3 n := by simp [sPut, nU, g]
    obtain ⟨g1, g2, g3⟩ := m.2.2.2.1 n g
    rw [s1, s2, s3, g1, g2, g3]; exact h.2 n (by omega)
theorem NR.cg {Y Z : zY} {S T : nY} (h : NR Y S) (y : Z 102 6 = Y 102 6 ∧ Z 107 = Y 107 ∧ Z 108 = Y 108 ∧ Z 109 = Y 109) (hc : T 0 2 = S 0 2) (e1 : T 1 = S 1) (e2 : T 2 = S 2) (e3 : T 3 = S 3) : NR Z T := by
  unfold NR; rw [hc, e1, e2, e3, y.1, y.2.1, y.2.2.1, y.2.2.2]; exact h
def jR (S : nY) : nY := if S 5 (S 0 1) = 0 then S else nU (nU (sPut S 1 (S 5 (S 0 1) - 1) (S 4 (S 0 1) - 1)) 4 (S 0 1) (S 0 2 + 1)) 5 (S 0 1) 0
def jO (S : nY) : nY := if S 6 (S 0 1) = 0 then S else nU (nU (sPut S 2 (S 6 (S 0 1) - 1) (S 4 (S 0 1) - 1)) 4 (S 0 1) (S 0 2 + 1)) 6 (S 0 1) 0
/-- only what the reading writes -/
def MF (Y Z : zY) : Prop := (∀ q, (q < 102 ∨ (102 < q ∧ q < 107) ∨ 111 < q) → Z q = Y q) ∧ ∀ k, k ≠ 6 → k ≠ 10 → k ≠ 12 → k ≠ 14 → Z 102 k = Y 102 k
theorem MF.rf {Y : zY} : MF Y Y := ⟨fun _ _ => rfl, fun _ _ _ _ _ => rfl⟩
theorem MF.trans {X Y Z : zY} (h : MF X Y) (g : MF Y Z) : MF X Z := ⟨fun q a => (g.1 q a).trans (h.1 q a), fun k a b c d => (g.2 k a b c d).trans (h.2 k a b c d)⟩
theorem MF.f {X Y : zY} {j : Nat} {v : Int32} (h : MF X Y) (hj : j = 6 ∨ j = 10 ∨ j = 12 ∨ j = 14) : MF X (zU Y 102 j v) := ⟨fun q a => (zU_row (by omega)).trans (h.1 q a), fun k a b c d => (zU_nj (by omega)).trans (h.2 k a b c d)⟩
theorem MF.r {X Y : zY} {a j : Nat} {v : Int32} (h : MF X Y) (ha : 107 ≤ a ∧ a ≤ 111) : MF X (zU Y a j v) := ⟨fun q b => (zU_row (by omega)).trans (h.1 q b), fun k a b c d => (zU_np (by omega)).trans (h.2 k a b c d)⟩
theorem MF.m {X Y Z : zY} {f w : Nat} {k l r : Int32} (h : MF X Y) (m : MKp Y Z f w k l r) : MF X Z := ⟨fun q a => (m.1 q (by omega) (by omega) (by omega) (by omega) (by omega)).trans (h.1 q a), fun k a b c d => (m.2.1.2.2 k a c).trans (h.2 k a b c d)⟩
/-- one letter, set or dot -/
theorem MS.atom {N x : Nat} {Y Z : zY} {S : nY} (h : MS N Y S 0) (m : MKp Y Z (S 0 2) (wT S) (nI 0) (nI x) (nI 0)) : MS (N + 2) Z (sAtom S x) 1 := by
  obtain ⟨hn, ⟨q1, q2⟩, hf, ⟨f6, f5⟩, hlv, hs⟩ := id h
  have e5 : sAtom S x 5 = S 5 := by funext n; simp [sAtom, sPut, nU]
  have e6 : sAtom S x 6 = S 6 := by funext n; simp [sAtom, sPut, nU]
  have e2 : sAtom S x 0 2 = S 0 2 + 1 := by simp [sAtom, sPut, nU]
  have e4 : sAtom S x 4 (S 0 1) = S 0 2 + 1 := by simp [sAtom, sPut, nU]
  have e110 : Z 110 = Y 110 := m.1 110 (by decide) (by decide) (by decide) (by decide) (by decide)
  have hm := m.2.2.2.2
  have h10 := m.2.1.2.2 10 (by decide) (by decide)
  have hnr := hn.put m
  unfold wT at hs hm q2 m
  unfold qT at q1
  refine h.mk sAtom_s.2 (fun e he => by rw [e5, e6]; exact ⟨rfl, rfl⟩) (fun j hj => hm j (by omega)) (fun j hj => by rw [e110]) (hnr.cg ⟨rfl, rfl, rfl, rfl⟩ (by rw [e2, sPut_n]) (by funext n; simp [sAtom, nU]) (by funext n; simp [sAtom, nU]) (by funext n; simp [sAtom, nU])) ?_ ?_ ?_ ?_ ?_ ?_
  · rw [h10, e5, e6]; exact q1
  · rw [e5, e6]; exact m.2.1.2.1
  · rw [e6, e110]; intro g; have := b1_p g; rw [hm _ (by omega)]; exact f6 g
  · rw [e5, e6, e110]; intro g; have := b1_p g; rw [hm _ (by omega)]; exact f5 g
  · rw [e5, e6, e4]; intro _; exact m.2.2.1.2.2.2
  · rw [e5, e6, e2]; omega
theorem MS.suf {N k v : Nat} {Y Z : zY} {S : nY} {a : Int32} (h : MS N Y S 1) (m : MKp (zU Y 102 12 a) Z (S 0 2) (wT S) (nI k) (nI (S 4 (S 0 1) - 1)) (nI v)) : MS (N + 1) Z (sSuf S k v) 1 := by
  obtain ⟨hn, ⟨q1, q2⟩, hf, ⟨f6, f5⟩, hlv, hs⟩ := id h
  have e5 : sSuf S k v 5 = S 5 := by funext n; simp [sSuf, sPut, nU]
  have e6 : sSuf S k v 6 = S 6 := by funext n; simp [sSuf, sPut, nU]
  have e2 : sSuf S k v 0 2 = S 0 2 + 1 := by simp [sSuf, sPut, nU]
  have e4 : sSuf S k v 4 (S 0 1) = S 0 2 + 1 := by simp [sSuf, sPut, nU]
  have e110 : Z 110 = Y 110 := (m.1 110 (by decide) (by decide) (by decide) (by decide) (by decide)).trans (zU_row (by decide))
  have hm : ∀ j, j ≠ wT S → Z 111 j = Y 111 j := fun j g => (m.2.2.2.2 j g).trans (zU_np (by decide))
  have h10 : Z 102 10 = Y 102 10 := (m.2.1.2.2 10 (by decide) (by decide)).trans (zU_nj (by decide))
  have hnr := NR.put (S := S) (Y := zU Y 102 12 a) (hn.cg ⟨zU_nj (by decide), zU_row (by decide), zU_row (by decide), zU_row (by decide)⟩ rfl rfl rfl rfl) m
  unfold wT at hs hm q2 m
  unfold qT at q1
  refine h.mk sSuf_s.2 (fun e he => by rw [e5, e6]; exact ⟨rfl, rfl⟩) (fun j hj => hm j (by omega)) (fun j hj => by rw [e110]) (hnr.cg ⟨rfl, rfl, rfl, rfl⟩ (by rw [e2, sPut_n]) (by funext n; simp [sSuf, nU]) (by funext n; simp [sSuf, nU]) (by funext n; simp [sSuf, nU])) ?_ ?_ ?_ ?_ ?_ ?_
  · rw [h10, e5, e6]; exact q1
  · rw [e5, e6]; exact m.2.1.2.1
  · rw [e6, e110]; intro g; have := b1_p g; rw [hm _ (by omega)]; exact f6 g
  · rw [e5, e6, e110]; intro g; have := b1_p g; rw [hm _ (by omega)]; exact f5 g
  · rw [e5, e6, e4]; intro _; exact m.2.2.1.2.2.2
  · rw [e5, e6, e2]; omega
/-- what stands on top -/
theorem MS.jr {N : Nat} {Y Z : zY} {S : nY} {a b : Int32} (h : MS N Y S 1) (g : S 5 (S 0 1) ≠ 0) (hb : b = nI (qT S - 1)) (m : MKp (zU (zU Y 102 12 a) 102 10 b) Z (S 0 2) (wT S - 1) (nI 1) (nI (S 5 (S 0 1) - 1)) (nI (S 4 (S 0 1) - 1))) : MS N Z (jR S) 1 := by
  obtain ⟨hn, ⟨q1, q2⟩, hf, ⟨f6, f5⟩, hlv, hs⟩ := id h
  have hg := b1_p g
  have ej : jR S = nU (nU (sPut S 1 (S 5 (S 0 1) - 1) (S 4 (S 0 1) - 1)) 4 (S 0 1) (S 0 2 + 1)) 5 (S 0 1) 0 := if_neg g
  have ed : jR S 0 1 = S 0 1 := by rw [ej]; simp [sPut, nU]
  have e2 : jR S 0 2 = S 0 2 + 1 := by rw [ej]; simp [sPut, nU]
  have e5 : ∀ e, jR S 5 e = if e = S 0 1 then 0 else S 5 e := fun e => by rw [ej]; simp [sPut, nU]
  have e6 : jR S 6 = S 6 := by funext n; rw [ej]; simp [sPut, nU]
  have e4 : jR S 4 (S 0 1) = S 0 2 + 1 := by rw [ej]; simp [sPut, nU]
  have e110 : Z 110 = Y 110 := (m.1 110 (by decide) (by decide) (by decide) (by decide) (by decide)).trans ((zU_row (by decide)).trans (zU_row (by decide)))
  have hm : ∀ j, j ≠ wT S - 1 → Z 111 j = Y 111 j := fun j g => (m.2.2.2.2 j g).trans ((zU_np (by decide)).trans (zU_np (by decide)))
  have h10 : Z 102 10 = b := (m.2.1.2.2 10 (by decide) (by decide)).trans zU_eq
  have hnr := NR.put (S := S) (Y := zU (zU Y 102 12 a) 102 10 b) (hn.cg ⟨(zU_nj (by decide)).trans (zU_nj (by decide)), (zU_row (by decide)).trans (zU_row (by decide)), (zU_row (by decide)).trans (zU_row (by decide)), (zU_row (by decide)).trans (zU_row (by decide))⟩ rfl rfl rfl rfl) m
  have e50 : jR S 5 (S 0 1) = 0 := by rw [e5, if_pos rfl]
  have hb0 : b1 0 = 0 := rfl
  unfold wT at hs hm q2 m
  unfold qT at q1 hb
  refine h.mk ed (fun e he => by rw [e5, e6, if_neg (by omega)]; exact ⟨rfl, rfl⟩) (fun j hj => hm j (by omega)) (fun j hj => by rw [e110]) (hnr.cg ⟨rfl, rfl, rfl, rfl⟩ (by rw [e2, sPut_n]) (by funext n; rw [ej]; simp [nU]) (by funext n; rw [ej]; simp [nU]) (by funext n; rw [ej]; simp [nU])) ?_ ?_ ?_ ?_ ?_ ?_
  · rw [h10, e50, e6, hb]; congr 1; omega
  · rw [e50, e6, m.2.1.2.1]; congr 1; omega
  · rw [e6, e110]; intro g; have := b1_p g; rw [hm _ (by omega)]; exact f6 g
  · rw [e50]; exact fun g => absurd rfl g
  · rw [e50, e6, e4]; intro _; rw [show wb S (S 0 1) + b1 (S 6 (S 0 1)) + b1 0 = wb S (S 0 1) + b1 (S 6 (S 0 1)) + b1 (S 5 (S 0 1)) - 1 by omega]; exact m.2.2.1.2.2.2
  · rw [e50, e6, e2]; omega
theorem MS.jo {N : Nat} {Y Z : zY} {S : nY} {a b : Int32} (h : MS N Y S 1) (g5 : S 5 (S 0 1) = 0) (g : S 6 (S 0 1) ≠ 0) (hb : b = nI (qT S - 1)) (m : MKp (zU (zU Y 102 12 a) 102 10 b) Z (S 0 2) (wT S - 1) (nI 2) (nI (S 6 (S 0 1) - 1)) (nI (S 4 (S 0 1) - 1))) : MS N Z (jO S) 1 := by
  obtain ⟨hn, ⟨q1, q2⟩, hf, ⟨f6, f5⟩, hlv, hs⟩ := id h
  have hg := b1_p g
  have ej : jO S = nU (nU (sPut S 2 (S 6 (S 0 1) - 1) (S 4 (S 0 1) - 1)) 4 (S 0 1) (S 0 2 + 1)) 6 (S 0 1) 0 := if_neg g
  have ed : jO S 0 1 = S 0 1 := by rw [ej]; simp [sPut, nU]
  have e2 : jO S 0 2 = S 0 2 + 1 := by rw [ej]; simp [sPut, nU]
  have e6 : ∀ e, jO S 6 e = if e = S 0 1 then 0 else S 6 e := fun e => by rw [ej]; simp [sPut, nU]
  have e5 : jO S 5 = S 5 := by funext n; rw [ej]; simp [sPut, nU]
  have e4 : jO S 4 (S 0 1) = S 0 2 + 1 := by rw [ej]; simp [sPut, nU]
  have e110 : Z 110 = Y 110 := (m.1 110 (by decide) (by decide) (by decide) (by decide) (by decide)).trans ((zU_row (by decide)).trans (zU_row (by decide)))
  have hm : ∀ j, j ≠ wT S - 1 → Z 111 j = Y 111 j := fun j g => (m.2.2.2.2 j g).trans ((zU_np (by decide)).trans (zU_np (by decide)))
  have h10 : Z 102 10 = b := (m.2.1.2.2 10 (by decide) (by decide)).trans zU_eq
  have hnr := NR.put (S := S) (Y := zU (zU Y 102 12 a) 102 10 b) (hn.cg ⟨(zU_nj (by decide)).trans (zU_nj (by decide)), (zU_row (by decide)).trans (zU_row (by decide)), (zU_row (by decide)).trans (zU_row (by decide)), (zU_row (by decide)).trans (zU_row (by decide))⟩ rfl rfl rfl rfl) m
  have e60 : jO S 6 (S 0 1) = 0 := by rw [e6, if_pos rfl]
  have e50 : jO S 5 (S 0 1) = 0 := by rw [e5, g5]
  have hb0 : b1 0 = 0 := rfl
  unfold wT at hs hm q2 m
  unfold qT at q1 hb
  rw [g5] at hs hm m hb
  refine h.mk ed (fun e he => by rw [e5, e6, if_neg (by omega)]; exact ⟨rfl, rfl⟩) (fun j hj => hm j (by omega)) (fun j hj => by rw [e110]) (hnr.cg ⟨rfl, rfl, rfl, rfl⟩ (by rw [e2, sPut_n]) (by funext n; rw [ej]; simp [nU]) (by funext n; rw [ej]; simp [nU]) (by funext n; rw [ej]; simp [nU])) ?_ ?_ ?_ ?_ ?_ ?_
  · rw [h10, e50, e60, hb]; congr 1; omega
  · rw [e50, e60, m.2.1.2.1]; congr 1; omega
  · rw [e60]; exact fun g => absurd rfl g
  · rw [e50]; exact fun g => absurd rfl g
  · rw [e50, e60, e4]; intro _; rw [show wb S (S 0 1) + b1 0 + b1 0 = wb S (S 0 1) + b1 (S 6 (S 0 1)) + b1 0 - 1 by omega]; exact m.2.2.1.2.2.2
  · rw [e50, e60, e2]; omega
theorem MS.hr {N : Nat} {Y : zY} {S : nY} (h : MS N Y S 1) (g5 : S 5 (S 0 1) = 0) (g4 : 1 ≤ S 4 (S 0 1)) : MS N (zU (zU Y 110 (qT S) (nI 1)) 102 10 (nI (qT S + 1))) (nU S 5 (S 0 1) (S 4 (S 0 1))) 0 := by
  obtain ⟨hn, ⟨q1, q2⟩, hf, ⟨f6, f5⟩, hlv, hs⟩ := id h
  have e5 : ∀ e, nU S 5 (S 0 1) (S 4 (S 0 1)) 5 e = if e = S 0 1 then S 4 (S 0 1) else S 5 e := fun e => by simp [nU]
  have e6 : nU S 5 (S 0 1) (S 4 (S 0 1)) 6 = S 6 := nU_row (by decide)
  have e0 : ∀ j, nU S 5 (S 0 1) (S 4 (S 0 1)) 0 j = S 0 j := fun j => nU_np (by decide)
  have e50 : nU S 5 (S 0 1) (S 4 (S 0 1)) 5 (S 0 1) = S 4 (S 0 1) := nU_eq
  have hb : b1 (S 4 (S 0 1)) = 1 := b1_p (by omega)
  have h0 := b1_0 g5
  unfold wT at hs q2 hlv
  unfold qT at q1 ⊢
  refine h.mk (e0 1) (fun e he => by rw [e5, e6, if_neg (by omega)]; exact ⟨rfl, rfl⟩) (fun j hj => (zU_np (by decide)).trans (zU_np (by decide))) (fun j hj => (zU_np (by decide)).trans (zU_nj (by omega))) (hn.cg ⟨(zU_nj (by decide)).trans (zU_np (by decide)), (zU_row (by decide)).trans (zU_row (by decide)), (zU_row (by decide)).trans (zU_row (by decide)), (zU_row (by decide)).trans (zU_row (by decide))⟩ (e0 2) (nU_row (by decide)) (nU_row (by decide)) (nU_row (by decide))) ?_ ?_ ?_ ?_ (fun z => by omega) ?_
  · rw [zU_eq, e50, e6, hb]; congr 1; omega
  · rw [zU_nj (by decide), zU_np (by decide), e50, e6, hb, q2]; congr 1; omega
  · rw [e6]; intro z; have := b1_p z
    rw [zU_np (by decide), zU_np (by decide), zU_np (by decide), zU_nj (by omega)]; exact f6 z
  · rw [e50, e6]; intro _
    refine ⟨?_, ?_⟩
    · rw [zU_np (by decide), zU_np (by decide), ← hlv rfl]; congr 1; omega
    · rw [zU_np (by decide)]
      have e : qb S (S 0 1) + b1 (S 6 (S 0 1)) = qb S (S 0 1) + b1 (S 6 (S 0 1)) + b1 (S 5 (S 0 1)) := by omega
      rw [← e, zU_eq]
  · rw [e50, e6, e0, hb]; omega
theorem MS.ho {N : Nat} {Y : zY} {S : nY} (h : MS N Y S 1) (g5 : S 5 (S 0 1) = 0) (g6 : S 6 (S 0 1) = 0) (g4 : 1 ≤ S 4 (S 0 1)) : MS N (zU (zU Y 110 (qT S) (nI 2)) 102 10 (nI (qT S + 1))) (nU S 6 (S 0 1) (S 4 (S 0 1))) 0 := by
  obtain ⟨hn, ⟨q1, q2⟩, hf, ⟨f6, f5⟩, hlv, hs⟩ := id h
  have e6 : ∀ e, nU S 6 (S 0 1) (S 4 (S 0 1)) 6 e = if e = S 0 1 then S 4 (S 0 1) else S 6 e := fun e => by simp [nU]
  have e5 : nU S 6 (S 0 1) (S 4 (S 0 1)) 5 = S 5 := nU_row (by decide)
  have e0 : ∀ j, nU S 6 (S 0 1) (S 4 (S 0 1)) 0 j = S 0 j := fun j => nU_np (by decide)
  have e60 : nU S 6 (S 0 1) (S 4 (S 0 1)) 6 (S 0 1) = S 4 (S 0 1) := nU_eq
  have hb : b1 (S 4 (S 0 1)) = 1 := b1_p (by omega)
  have h0 := b1_0 g5
  have h1 := b1_0 g6
  unfold wT at hs q2 hlv
  unfold qT at q1 ⊢
  refine h.mk (e0 1) (fun e he => by rw [e5, e6, if_neg (by omega)]; exact ⟨rfl, rfl⟩) (fun j hj => (zU_np (by decide)).trans (zU_np (by decide))) (fun j hj => (zU_np (by decide)).trans (zU_nj (by omega))) (hn.cg ⟨(zU_nj (by decide)).trans (zU_np (by decide)), (zU_row (by decide)).trans (zU_row (by decide)), (zU_row (by decide)).trans (zU_row (by decide)), (zU_row (by decide)).trans (zU_row (by decide))⟩ (e0 2) (nU_row (by decide)) (nU_row (by decide)) (nU_row (by decide))) ?_ ?_ ?_ ?_ (fun z => by omega) ?_
  · rw [zU_eq, e60, e5, hb]; congr 1; omega
  · rw [zU_nj (by decide), zU_np (by decide), e60, e5, hb, q2]; congr 1; omega
  · rw [e60]; intro _
    refine ⟨?_, ?_⟩
    · rw [zU_np (by decide), zU_np (by decide), ← hlv rfl]; congr 1; omega
    · rw [zU_np (by decide)]
      have e : qb S (S 0 1) = qb S (S 0 1) + b1 (S 6 (S 0 1)) + b1 (S 5 (S 0 1)) := by omega
      rw [← e, zU_eq]
  · rw [e5]; exact fun z => absurd g5 z
  · rw [e60, e5, e0, hb]; omega
theorem MS.hb {N : Nat} {Y : zY} {S : nY} (h : MS N Y S 0) : MS N (zU (zU Y 110 (qT S) (nI 7)) 102 10 (nI (qT S + 1))) (sOpen S) 0 := by
  obtain ⟨hn, ⟨q1, q2⟩, hf, f, hlv, hs⟩ := h
  have e1 : sOpen S 0 1 = S 0 1 + 1 := sOpen_s.2
  have e2 : sOpen S 0 2 = S 0 2 := by simp [sOpen, sBeg, nU]
  have e5 : ∀ e, sOpen S 5 e = if e = S 0 1 + 1 then 0 else S 5 e := fun e => by simp [sOpen, sBeg, nU]
  have e6 : ∀ e, sOpen S 6 e = if e = S 0 1 + 1 then 0 else S 6 e := fun e => by simp [sOpen, sBeg, nU]
  have hr : ∀ e, e < S 0 1 + 1 → sOpen S 5 e = S 5 e ∧ sOpen S 6 e = S 6 e := fun e he => ⟨by rw [e5, if_neg (by omega)], by rw [e6, if_neg (by omega)]⟩
  have hc := wb_cg hr
  have e50 : sOpen S 5 (S 0 1 + 1) = 0 := by rw [e5, if_pos rfl]
  have e60 : sOpen S 6 (S 0 1 + 1) = 0 := by rw [e6, if_pos rfl]
  have hb0 : b1 0 = 0 := rfl
  have hq1 : qb S (S 0 1 + 1) = qT S + 1 := rfl
  have hw1 : wb S (S 0 1 + 1) = wT S := rfl
  have eq : qT (sOpen S) = qT S + 1 := by unfold qT; rw [e1, e50, e60, (hc _ (Nat.le_refl _)).2]; rfl
  have ew : wT (sOpen S) = wT S := by unfold wT; rw [e1, e50, e60, (hc _ (Nat.le_refl _)).1]; rfl
  unfold MS
  rw [eq, ew, e1]
  refine ⟨hn.cg ⟨(zU_nj (by decide)).trans (zU_np (by decide)), (zU_row (by decide)).trans (zU_row (by decide)), (zU_row (by decide)).trans (zU_row (by decide)), (zU_row (by decide)).trans (zU_row (by decide))⟩ e2 (by funext n; simp [sOpen, sBeg, nU]) (by funext n; simp [sOpen, sBeg, nU]) (by funext n; simp [sOpen, sBeg, nU]), ⟨zU_eq, (zU_nj (by decide)).trans ((zU_np (by decide)).trans q2)⟩, fun e he => ?_, ⟨fun z => absurd e60 z, fun z => absurd e50 z⟩, fun z => by omega, by rw [e2]; exact hs⟩
  obtain ⟨r5, r6⟩ := hr e he
  obtain ⟨c1, c2⟩ := hc e (by omega)
  have hm := wb_mono (S := S) (e := e + 1) (S 0 1 + 1) (by omega)
  have hm2 : qb S (e + 1) = qb S e + b1 (S 6 e) + b1 (S 5 e) + 1 := rfl
  have hF : FRM Y S e := by
    by_cases g : e = S 0 1
    · subst g; exact f
    · exact (hf e (by omega)).1
  refine ⟨hF.cg r5 r6 c1 c2 (fun j hj => (zU_np (by decide)).trans (zU_np (by decide))) (fun j hj => (zU_np (by decide)).trans (zU_nj (by omega))), ?_⟩
  rw [c2, r5, r6, zU_np (by decide)]
  by_cases g : e = S 0 1
  · subst g; exact zU_eq
  · have hm3 := wb_mono (S := S) (e := e + 1) (S 0 1) (by omega)
    rw [zU_nj (by unfold qT; omega)]; exact (hf e (by omega)).2
theorem MS.cl {N : Nat} {Y : zY} {S : nY} (h : MS N Y S 1) (g5 : S 5 (S 0 1) = 0) (g6 : S 6 (S 0 1) = 0) (hd : 1 ≤ S 0 1) : MS N (zU Y 102 10 (nI (qT S - 1))) (nU (nU S 0 1 (S 0 1 - 1)) 4 (S 0 1 - 1) (S 4 (S 0 1))) 1 := by
  obtain ⟨hn, ⟨q1, q2⟩, hf, f, hlv, hs⟩ := h
  have e1 : nU (nU S 0 1 (S 0 1 - 1)) 4 (S 0 1 - 1) (S 4 (S 0 1)) 0 1 = S 0 1 - 1 := by simp [nU]
  have e2 : nU (nU S 0 1 (S 0 1 - 1)) 4 (S 0 1 - 1) (S 4 (S 0 1)) 0 2 = S 0 2 := by simp [nU]
  have e5 : nU (nU S 0 1 (S 0 1 - 1)) 4 (S 0 1 - 1) (S 4 (S 0 1)) 5 = S 5 := by funext n; simp [nU]
  have e6 : nU (nU S 0 1 (S 0 1 - 1)) 4 (S 0 1 - 1) (S 4 (S 0 1)) 6 = S 6 := by funext n; simp [nU]
  have e4 : nU (nU S 0 1 (S 0 1 - 1)) 4 (S 0 1 - 1) (S 4 (S 0 1)) 4 (S 0 1 - 1) = S 4 (S 0 1) := nU_eq
  have hc := wb_cg (S := S) (T := nU (nU S 0 1 (S 0 1 - 1)) 4 (S 0 1 - 1) (S 4 (S 0 1))) (n := S 0 1) (fun e he => ⟨by rw [e5], by rw [e6]⟩)
  generalize hT : nU (nU S 0 1 (S 0 1 - 1)) 4 (S 0 1 - 1) (S 4 (S 0 1)) = T at *
  have h1 : wb S (S 0 1) = wb S (S 0 1 - 1) + b1 (S 6 (S 0 1 - 1)) + b1 (S 5 (S 0 1 - 1)) := by
    have : S 0 1 = S 0 1 - 1 + 1 := by omega
    rw [this]; rfl
  have h2 : qb S (S 0 1) = qb S (S 0 1 - 1) + b1 (S 6 (S 0 1 - 1)) + b1 (S 5 (S 0 1 - 1)) + 1 := by
    have : S 0 1 = S 0 1 - 1 + 1 := by omega
    rw [this]; rfl
  have z5 := b1_0 g5
  have z6 := b1_0 g6
  have ew : wT T = wT S := by unfold wT; rw [e1, e5, e6, (hc _ (by omega)).1]; omega
  have eq : qT T = qT S - 1 := by unfold qT; rw [e1, e5, e6, (hc _ (by omega)).2]; omega
  unfold MS
  rw [ew, eq, e1]
  refine ⟨hn.cg ⟨zU_nj (by decide), zU_row (by decide), zU_row (by decide), zU_row (by decide)⟩ e2 (by rw [← hT]; funext n; simp [nU]) (by rw [← hT]; funext n; simp [nU]) (by rw [← hT]; funext n; simp [nU]), ⟨zU_eq, (zU_nj (by decide)).trans q2⟩, fun e he => ?_, ?_, fun _ => ?_, by rw [e2]; exact hs⟩
  · obtain ⟨c1, c2⟩ := hc e (by omega)
    refine ⟨(hf e (by omega)).1.cg (by rw [e5]) (by rw [e6]) c1 c2 (fun j hj => zU_np (by decide)) (fun j hj => zU_np (by decide)), ?_⟩
    rw [c2, e5, e6, zU_np (by decide)]; exact (hf e (by omega)).2
  · obtain ⟨c1, c2⟩ := hc (S 0 1 - 1) (by omega)
    exact (hf _ (by omega)).1.cg (by rw [e5]) (by rw [e6]) c1 c2 (fun j hj => zU_np (by decide)) (fun j hj => zU_np (by decide))
  · rw [zU_np (by decide), e4]; exact hlv rfl
def EQ (T S : nY) : Prop := T 0 1 = S 0 1 ∧ T 0 2 = S 0 2 ∧ T 1 = S 1 ∧ T 2 = S 2 ∧ T 3 = S 3 ∧ ∀ e, e ≤ S 0 1 → T 5 e = S 5 e ∧ T 6 e = S 6 e
theorem MS.eq0 {N N' : Nat} {Y : zY} {S T : nY} (h : MS N Y S 0) (e : EQ T S) (hN : N ≤ N') : MS N' Y T 0 := h.cg hN e.1 e.2.1 e.2.2.1 e.2.2.2.1 e.2.2.2.2.1 e.2.2.2.2.2 (fun z => by omega)
theorem MS.eq1 {N N' : Nat} {Y : zY} {S T : nY} (h : MS N Y S 1) (e : EQ T S) (g : T 4 (S 0 1) = S 4 (S 0 1)) (hN : N ≤ N') : MS N' Y T 1 := h.cg hN e.1 e.2.1 e.2.2.1 e.2.2.2.1 e.2.2.2.2.1 e.2.2.2.2.2 (fun _ => g)
theorem jR_f (S : nY) : jR S 0 1 = S 0 1 ∧ jR S 5 (S 0 1) = 0 ∧ jR S 6 = S 6 ∧ (1 ≤ S 4 (S 0 1) → 1 ≤ jR S 4 (S 0 1)) := by
  unfold jR
  by_cases h : S 5 (S 0 1) = 0
  · rw [if_pos h]; exact ⟨rfl, h, rfl, id⟩
  · rw [if_neg h]
    refine ⟨by simp [sPut, nU], nU_eq, by funext n; simp [sPut, nU], fun _ => ?_⟩
    rw [nU_np (by decide), nU_eq]; omega
theorem jO_f (S : nY) : jO S 0 1 = S 0 1 ∧ jO S 6 (S 0 1) = 0 ∧ jO S 5 = S 5 ∧ (1 ≤ S 4 (S 0 1) → 1 ≤ jO S 4 (S 0 1)) := by
  unfold jO
  by_cases h : S 6 (S 0 1) = 0
  · rw [if_pos h]; exact ⟨rfl, h, rfl, id⟩
  · rw [if_neg h]
    refine ⟨by simp [sPut, nU], nU_eq, by funext n; simp [sPut, nU], fun _ => ?_⟩
    rw [nU_np (by decide), nU_eq]; omega
theorem jR_z {S : nY} (h : S 5 (S 0 1) = 0) : jR S = S := if_pos h
theorem jO_z {S : nY} (h : S 6 (S 0 1) = 0) : jO S = S := if_pos h
def sJ (a : Nat) (S : nY) : nY := if a = 1 then jR S else jO (jR S)
theorem sJ_R {a : Nat} {S : nY} : sJ a (jR S) = sJ a S := by
  have h : jR (jR S) = jR S := jR_z (by rw [(jR_f S).1]; exact (jR_f S).2.1)
  unfold sJ; rw [h]
theorem sJ_O {a : Nat} {S : nY} (ha : a ≠ 1) (h : S 5 (S 0 1) = 0) : sJ a (jO S) = sJ a S := by
  have h1 : jR (jO S) = jO S := jR_z (by rw [(jO_f S).1, (jO_f S).2.2.1]; exact h)
  have h2 : jO (jO S) = jO S := jO_z (by rw [(jO_f S).1]; exact (jO_f S).2.1)
  unfold sJ; rw [if_neg ha, if_neg ha, h1, h2, jR_z h]
theorem sJ_z {a : Nat} {S : nY} (h : S 5 (S 0 1) = 0) (h6 : a ≠ 1 → S 6 (S 0 1) = 0) : sJ a S = S := by
  unfold sJ; rw [jR_z h]
  by_cases g : a = 1
  · rw [if_pos g]
  · rw [if_neg g, jO_z (h6 g)]
theorem eq_item (S : nY) : EQ (sItem S) (nU (jR S) 5 (S 0 1) (jR S 4 (S 0 1))) := by
  unfold sItem jR
  by_cases h : S 5 (S 0 1) = 0
  · rw [if_pos h, if_pos h]; exact ⟨rfl, rfl, rfl, rfl, rfl, fun _ _ => ⟨rfl, rfl⟩⟩
  · rw [if_neg h, if_neg h]
    refine ⟨by simp [sPut, nU], by simp [sPut, nU], by funext n; simp [sPut, nU], by funext n; simp [sPut, nU], by funext n; simp [sPut, nU], fun e _ => ⟨?_, by simp [sPut, nU]⟩⟩
    by_cases g : e = S 0 1 <;> simp [sPut, nU, g]
theorem eq_row (S : nY) : EQ (sRow (sItem S)) (nU (jO (jR S)) 6 (S 0 1) (jO (jR S) 4 (S 0 1))) := by
  unfold EQ sRow
  rw [sItem_d (by decide)]
  unfold jO
  rw [(jR_f S).1, (jR_f S).2.2.1]
  unfold sItem jR
  by_cases h : S 5 (S 0 1) = 0 <;> by_cases h6 : S 6 (S 0 1) = 0
  all_goals simp only [h, h6, if_true, if_false]
  all_goals refine ⟨by simp [sPut, nU, h, h6], by simp [sPut, nU, h, h6], by funext n; simp [sPut, nU, h, h6], by funext n; simp [sPut, nU, h, h6], by funext n; simp [sPut, nU, h, h6], fun e _ => ⟨?_, ?_⟩⟩
  all_goals (by_cases g : e = S 0 1 <;> simp [sPut, nU, g, h, h6])
