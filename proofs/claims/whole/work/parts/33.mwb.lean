/-! ===== runs keep the draft a tree ===== -/
def qU (q : Nat → Nat) (j v : Nat) : Nat → Nat := fun k => if k = j then v else q k
def ND (S : nY) (q : Nat → Nat) (n : Nat) : Prop := S 1 n ≤ 6 ∧ S 3 n < 2 ^ 26 ∧ (S 1 n = 0 → S 2 n < 2 ^ 26) ∧ (S 1 n ≠ 0 → S 2 n < n ∧ 1 + q (S 2 n + 1) ≤ q (n + 1)) ∧ (S 1 n = 1 ∨ S 1 n = 2 → S 3 n < n ∧ 1 + q (S 2 n + 1) + q (S 3 n + 1) ≤ q (n + 1)) ∧ (S 1 n = 6 → S 3 n ≤ 99) ∧ 1 ≤ q (n + 1) ∧ q (n + 1) ≤ n + 1
def NS (S : nY) (q : Nat → Nat) : Prop := q 0 = 0 ∧ ∀ n, n < S 0 2 → ND S q n
def FS (S : nY) (q W : Nat → Nat) (x : Nat) : Prop := (∀ e, e ≤ S 0 1 → S 5 e ≤ S 0 2 ∧ S 6 e ≤ S 0 2) ∧ (∀ e, e < S 0 1 → W e + q (S 5 e) + q (S 6 e) ≤ W (e + 1)) ∧ W (S 0 1) + q (S 5 (S 0 1)) + q (S 6 (S 0 1)) + x ≤ S 0 2
def WI (S : nY) : Prop := ∃ q W, NS S q ∧ (1 ≤ S 4 (S 0 1) ∧ S 4 (S 0 1) ≤ S 0 2) ∧ FS S q W (q (S 4 (S 0 1)))
def WN (S : nY) : Prop := ∃ q W, NS S q ∧ FS S q W 0
theorem ND.cg {S T : nY} {q q' : Nat → Nat} {n : Nat} (h : ND S q n) (e1 : T 1 n = S 1 n) (e2 : T 2 n = S 2 n) (e3 : T 3 n = S 3 n) (eq : ∀ j, j ≤ n + 1 → q' j = q j) : ND T q' n := by
  obtain ⟨h1, h2, h3, h4, h5, h6, h7, h8⟩ := h
  unfold ND; rw [e1, e2, e3]
  refine ⟨h1, h2, h3, fun g => ?_, fun g => ?_, h6, ?_, ?_⟩
  · have := h4 g; rw [eq _ (by omega), eq _ (by omega)]; exact this
  · have h9 := h4 (by omega); have := h5 g; rw [eq _ (by omega), eq _ (by omega), eq _ (by omega)]; exact this
  · rw [eq _ (by omega)]; exact h7
  · rw [eq _ (by omega)]; exact h8
theorem NS.cg {S T : nY} {q : Nat → Nat} (h : NS S q) (e0 : T 0 2 = S 0 2) (e1 : T 1 = S 1) (e2 : T 2 = S 2) (e3 : T 3 = S 3) : NS T q := by
  refine ⟨h.1, fun n hn => ?_⟩
  rw [e0] at hn
  exact (h.2 n hn).cg (by rw [e1]) (by rw [e2]) (by rw [e3]) (fun _ _ => rfl)
theorem NS.put {S : nY} {q : Nat → Nat} {k l r v : Nat} (h : NS S q) (h1 : k ≤ 6) (h2 : r < 2 ^ 26) (h3 : k = 0 → l < 2 ^ 26) (h4 : k ≠ 0 → l < S 0 2 ∧ 1 + q (l + 1) ≤ v) (h5 : k = 1 ∨ k = 2 → r < S 0 2 ∧ 1 + q (l + 1) + q (r + 1) ≤ v) (h6 : k = 6 → r ≤ 99) (h7 : 1 ≤ v) (h8 : v ≤ S 0 2 + 1) : NS (sPut S k l r) (qU q (S 0 2 + 1) v) := by
  refine ⟨by unfold qU; rw [if_neg (by omega)]; exact h.1, fun n hn => ?_⟩
  rw [sPut_n] at hn
  have e1 : ∀ m, sPut S k l r 1 m = if m = S 0 2 then k else S 1 m := fun m => by simp [sPut, nU]
  have e2 : ∀ m, sPut S k l r 2 m = if m = S 0 2 then l else S 2 m := fun m => by simp [sPut, nU]
  have e3 : ∀ m, sPut S k l r 3 m = if m = S 0 2 then r else S 3 m := fun m => by simp [sPut, nU]
  by_cases g : n = S 0 2
  · subst g
    unfold ND
    rw [e1, e2, e3, if_pos rfl, if_pos rfl, if_pos rfl]
    have q1 : qU q (S 0 2 + 1) v (S 0 2 + 1) = v := by simp [qU]
    rw [q1]
    refine ⟨h1, h2, h3, fun g => ⟨(h4 g).1, ?_⟩, fun g => ⟨(h5 g).1, ?_⟩, h6, h7, h8⟩
    · have := h4 g; unfold qU; rw [if_neg (by omega)]; exact this.2
    · have := h4 (by omega); have := h5 g; unfold qU; rw [if_neg (by omega), if_neg (by omega)]; exact this.2
  · refine (h.2 n (by omega)).cg (by rw [e1, if_neg g]) (by rw [e2, if_neg g]) (by rw [e3, if_neg g]) (fun j hj => ?_)
    unfold qU; rw [if_neg (by omega)]
theorem qU_lo {q : Nat → Nat} {c v : Nat} (j : Nat) (h : j ≤ c) : qU q (c + 1) v j = q j := by unfold qU; rw [if_neg (by omega)]
theorem qU_at {q : Nat → Nat} {c v : Nat} : qU q c v c = v := by simp [qU]
theorem FS.mk {S T : nY} {q q' W : Nat → Nat} {x y : Nat} (h : FS S q W x) (hd : T 0 1 = S 0 1) (hc : S 0 2 ≤ T 0 2) (hr : ∀ e, e < S 0 1 → T 5 e = S 5 e ∧ T 6 e = S 6 e) (hq : ∀ j, j ≤ S 0 2 → q' j = q j) (h5 : T 5 (S 0 1) ≤ T 0 2) (h6 : T 6 (S 0 1) ≤ T 0 2) (hs : W (S 0 1) + q' (T 5 (S 0 1)) + q' (T 6 (S 0 1)) + y ≤ T 0 2) : FS T q' W y := by
  obtain ⟨a1, a2, a3⟩ := h
  unfold FS; rw [hd]
  refine ⟨fun e he => ?_, fun e he => ?_, hs⟩
  · by_cases g : e = S 0 1
    · subst g; exact ⟨h5, h6⟩
    · obtain ⟨g1, g2⟩ := hr e (by omega); rw [g1, g2]; have := a1 e he; omega
  · obtain ⟨g1, g2⟩ := hr e he
    have := a1 e (by omega)
    rw [g1, g2, hq _ (by omega), hq _ (by omega)]; exact a2 e he
theorem WN.atom {S : nY} {m : Nat} (h : WN S) (hm : m < 2 ^ 26) : WI (sAtom S m) := by
  obtain ⟨q, W, h1, h2⟩ := h
  have h3 := h2.1 (S 0 1) (Nat.le_refl _)
  have h4 := h2.2.2
  have e1 : sAtom S m 0 1 = S 0 1 := sAtom_s.2
  have e2 : sAtom S m 0 2 = S 0 2 + 1 := by simp [sAtom, sPut, nU]
  have e3 : sAtom S m 4 (S 0 1) = S 0 2 + 1 := by simp [sAtom, sPut, nU]
  have e5 : sAtom S m 5 = S 5 := by funext n; simp [sAtom, sPut, nU]
  have e6 : sAtom S m 6 = S 6 := by funext n; simp [sAtom, sPut, nU]
  refine ⟨qU q (S 0 2 + 1) 1, W, ?_, ?_, ?_⟩
  · exact (h1.put (k := 0) (l := m) (r := 0) (by decide) (by decide) (fun _ => hm) (fun g => absurd rfl g) (fun g => by omega) (fun g => by omega) (by decide) (by omega)).cg (by rw [e2, sPut_n]) (by funext n; simp [sAtom, nU]) (by funext n; simp [sAtom, nU]) (by funext n; simp [sAtom, nU])
  · rw [e1, e2, e3]; omega
  · refine h2.mk e1 (by omega) (fun e _ => by rw [e5, e6]; exact ⟨rfl, rfl⟩) (fun j hj => qU_lo j hj) (by rw [e5]; omega) (by rw [e6]; omega) ?_
    rw [e1, e2, e3, e5, e6, qU_lo _ (by omega), qU_lo _ (by omega), qU_at]; omega
theorem WI.suf {S : nY} {k v : Nat} (h : WI S) (hk : 3 ≤ k ∧ k ≤ 6) (hv : v ≤ 99) : WI (sSuf S k v) := by
  obtain ⟨q, W, h1, h0, h2⟩ := h
  have h3 := h2.1 (S 0 1) (Nat.le_refl _)
  have h4 := h2.2.2
  have hp : S 4 (S 0 1) - 1 + 1 = S 4 (S 0 1) := by omega
  have e1 : sSuf S k v 0 1 = S 0 1 := sSuf_s.2
  have e2 : sSuf S k v 0 2 = S 0 2 + 1 := by simp [sSuf, sPut, nU]
  have e3 : sSuf S k v 4 (S 0 1) = S 0 2 + 1 := by simp [sSuf, sPut, nU]
  have e5 : sSuf S k v 5 = S 5 := by funext n; simp [sSuf, sPut, nU]
  have e6 : sSuf S k v 6 = S 6 := by funext n; simp [sSuf, sPut, nU]
  refine ⟨qU q (S 0 2 + 1) (q (S 4 (S 0 1)) + 1), W, ?_, ?_, ?_⟩
  · exact (h1.put (k := k) (l := S 4 (S 0 1) - 1) (r := v) (by omega) (by omega) (fun g => by omega) (fun g => by rw [hp]; omega) (fun g => by omega) (fun g => hv) (by omega) (by omega)).cg (by rw [e2, sPut_n]) (by funext n; simp [sSuf, nU]) (by funext n; simp [sSuf, nU]) (by funext n; simp [sSuf, nU])
  · rw [e1, e2, e3]; omega
  · refine h2.mk e1 (by omega) (fun e _ => by rw [e5, e6]; exact ⟨rfl, rfl⟩) (fun j hj => qU_lo j hj) (by rw [e5]; omega) (by rw [e6]; omega) ?_
    rw [e1, e2, e3, e5, e6, qU_lo _ (by omega), qU_lo _ (by omega), qU_at]; omega
theorem WI.item {S : nY} (h : WI S) (hc : S 0 2 ≤ 200) : WN (sItem S) := by
  obtain ⟨q, W, h1, h0, h2⟩ := h
  have h3 := h2.1 (S 0 1) (Nat.le_refl _)
  have h4 := h2.2.2
  have h00 := h1.1
  unfold sItem
  by_cases hz : S 5 (S 0 1) = 0
  · rw [if_pos hz]
    rw [hz, h00] at h4
    refine ⟨q, W, h1.cg (nU_np (by decide)) (nU_row (by decide)) (nU_row (by decide)) (nU_row (by decide)), ?_⟩
    have e1 : nU S 5 (S 0 1) (S 4 (S 0 1)) 0 1 = S 0 1 := nU_np (by decide)
    have e2 : nU S 5 (S 0 1) (S 4 (S 0 1)) 0 2 = S 0 2 := nU_np (by decide)
    refine h2.mk e1 (by omega) (fun e he => ⟨nU_nj (by omega), nU_np (by decide)⟩) (fun j hj => rfl) (by rw [nU_eq]; omega) (by rw [nU_np (by decide)]; omega) ?_
    rw [nU_eq, nU_np (by decide), e2]; omega
  · rw [if_neg hz]
    have hp : S 4 (S 0 1) - 1 + 1 = S 4 (S 0 1) := by omega
    have hp2 : S 5 (S 0 1) - 1 + 1 = S 5 (S 0 1) := by omega
    refine ⟨qU q (S 0 2 + 1) (q (S 5 (S 0 1)) + q (S 4 (S 0 1)) + 1), W, ?_, ?_⟩
    · exact (h1.put (k := 1) (l := S 5 (S 0 1) - 1) (r := S 4 (S 0 1) - 1) (by decide) (by omega) (fun g => by omega) (fun g => by rw [hp2]; omega) (fun g => by rw [hp, hp2]; omega) (fun g => by omega) (by omega) (by omega)).cg (nU_np (by decide)) (nU_row (by decide)) (nU_row (by decide)) (nU_row (by decide))
    · refine h2.mk (by simp [sPut, nU]) (by simp [sPut, nU]) (fun e he => ⟨by rw [nU_nj (by omega), sPut_4 (by decide)], by rw [nU_np (by decide), sPut_4 (by decide)]⟩) (fun j hj => qU_lo j hj) (by rw [nU_eq, nU_np (by decide), sPut_n]; omega) (by rw [nU_np (by decide), nU_np (by decide), sPut_n, sPut_4 (by decide)]; omega) ?_
      rw [nU_eq, nU_np (by decide), sPut_4 (by decide), nU_np (by decide), sPut_n, qU_at, qU_lo _ (by omega)]; omega
theorem WN.row {S : nY} (h : WN S) (hl : 1 ≤ S 5 (S 0 1)) (hc : S 0 2 ≤ 200) : WN (sRow S) ∧ sRow S 5 (S 0 1) = 0 ∧ 1 ≤ sRow S 6 (S 0 1) := by
  obtain ⟨q, W, h1, h2⟩ := h
  have h3 := h2.1 (S 0 1) (Nat.le_refl _)
  have h4 := h2.2.2
  have h00 := h1.1
  unfold sRow
  by_cases hz : S 6 (S 0 1) = 0
  · rw [if_pos hz]
    rw [hz, h00] at h4
    refine ⟨⟨q, W, h1.cg ((nU_np (by decide)).trans (nU_np (by decide))) ((nU_row (by decide)).trans (nU_row (by decide))) ((nU_row (by decide)).trans (nU_row (by decide))) ((nU_row (by decide)).trans (nU_row (by decide))), ?_⟩, nU_eq, by rw [nU_np (by decide), nU_eq]; exact hl⟩
    have e2 : nU (nU S 6 (S 0 1) (S 5 (S 0 1))) 5 (S 0 1) 0 0 2 = S 0 2 := by rw [nU_np (by decide), nU_np (by decide)]
    refine h2.mk (by rw [nU_np (by decide), nU_np (by decide)]) (by omega) (fun e he => ⟨by rw [nU_nj (by omega), nU_np (by decide)], by rw [nU_np (by decide), nU_nj (by omega)]⟩) (fun j hj => rfl) (by rw [nU_eq]; omega) (by rw [nU_np (by decide), nU_eq]; omega) ?_
    rw [nU_eq, nU_np (by decide), nU_eq, e2, h00]; omega
  · rw [if_neg hz]
    have hp : S 6 (S 0 1) - 1 + 1 = S 6 (S 0 1) := by omega
    have hp2 : S 5 (S 0 1) - 1 + 1 = S 5 (S 0 1) := by omega
    refine ⟨⟨qU q (S 0 2 + 1) (q (S 6 (S 0 1)) + q (S 5 (S 0 1)) + 1), W, ?_, ?_⟩, nU_eq, by rw [nU_np (by decide), nU_eq]; omega⟩
    · exact (h1.put (k := 2) (l := S 6 (S 0 1) - 1) (r := S 5 (S 0 1) - 1) (by decide) (by omega) (fun g => by omega) (fun g => by rw [hp]; omega) (fun g => by rw [hp, hp2]; omega) (fun g => by omega) (by omega) (by omega)).cg (by rw [nU_np (by decide), nU_np (by decide)]) ((nU_row (by decide)).trans (nU_row (by decide))) ((nU_row (by decide)).trans (nU_row (by decide))) ((nU_row (by decide)).trans (nU_row (by decide)))
    · refine h2.mk (by simp [sPut, nU]) (by simp [sPut, nU]) (fun e he => ⟨by rw [nU_nj (by omega), nU_np (by decide), sPut_4 (by decide)], by rw [nU_np (by decide), nU_nj (by omega), sPut_4 (by decide)]⟩) (fun j hj => qU_lo j hj) (by rw [nU_eq]; omega) (by rw [nU_np (by decide), nU_eq, nU_np (by decide), nU_np (by decide), sPut_n]; omega) ?_
      rw [nU_eq, nU_np (by decide), nU_eq, nU_np (by decide), nU_np (by decide), sPut_n, qU_at, qU_lo _ (by omega), h00]; omega
theorem WN.opn {S : nY} (h : WN S) : WN (sOpen S) := by
  obtain ⟨q, W, h1, h2⟩ := h
  have e1 : sOpen S 0 1 = S 0 1 + 1 := sOpen_s.2
  have e2 : sOpen S 0 2 = S 0 2 := by simp [sOpen, sBeg, nU]
  have e5 : ∀ e, sOpen S 5 e = if e = S 0 1 + 1 then 0 else S 5 e := fun e => by simp [sOpen, sBeg, nU]
  have e6 : ∀ e, sOpen S 6 e = if e = S 0 1 + 1 then 0 else S 6 e := fun e => by simp [sOpen, sBeg, nU]
  refine ⟨q, qU W (S 0 1 + 1) (W (S 0 1) + q (S 5 (S 0 1)) + q (S 6 (S 0 1))), h1.cg e2 ?_ ?_ ?_, ?_, ?_, ?_⟩
  · funext n; simp [sOpen, sBeg, nU]
  · funext n; simp [sOpen, sBeg, nU]
  · funext n; simp [sOpen, sBeg, nU]
  · intro e he; rw [e1] at he; rw [e2, e5, e6]
    by_cases g : e = S 0 1 + 1
    · rw [if_pos g, if_pos g]; omega
    · rw [if_neg g, if_neg g]; exact h2.1 e (by omega)
  · intro e he; rw [e1] at he; rw [e5, e6, if_neg (by omega), if_neg (by omega), qU_lo _ (by omega)]
    by_cases g : e = S 0 1
    · subst g; rw [qU_at]; omega
    · rw [qU_lo _ (by omega)]; exact h2.2.1 e (by omega)
  · rw [e1, e2, e5, e6, if_pos rfl, if_pos rfl, qU_at, h1.1]; have := h2.2.2; omega
theorem WN.clo {T : nY} (h : WN T) (hd : 1 ≤ T 0 1) (h5 : T 5 (T 0 1) = 0) (h6 : 1 ≤ T 6 (T 0 1)) : WI (sClo T) := by
  obtain ⟨q, W, h1, h2⟩ := h
  have e1 : sClo T 0 1 = T 0 1 - 1 := by simp [sClo, nU]
  have e2 : sClo T 0 2 = T 0 2 := by simp [sClo, nU]
  have e4 : sClo T 4 (T 0 1 - 1) = T 6 (T 0 1) := by simp [sClo, nU]
  have e5 : sClo T 5 = T 5 := by funext n; simp [sClo, nU]
  have e6 : sClo T 6 = T 6 := by funext n; simp [sClo, nU]
  have g1 := h2.2.1 (T 0 1 - 1) (by omega)
  rw [Nat.sub_add_cancel hd] at g1
  have g2 := h2.2.2
  have g3 := h2.1 (T 0 1) (Nat.le_refl _)
  rw [h5, h1.1] at g2
  refine ⟨q, W, h1.cg e2 ?_ ?_ ?_, by rw [e1, e4, e2]; omega, fun e he => ?_, fun e he => ?_, ?_⟩
  · funext n; simp [sClo, nU]
  · funext n; simp [sClo, nU]
  · funext n; simp [sClo, nU]
  · rw [e1] at he; rw [e5, e6, e2]; exact h2.1 e (by omega)
  · rw [e1] at he; rw [e5, e6]; exact h2.2.1 e (by omega)
  · rw [e1, e5, e6, e2, e4]; omega
theorem FS.cg {S T : nY} {q W : Nat → Nat} {x : Nat} (h : FS S q W x) (e1 : T 0 1 = S 0 1) (e2 : T 0 2 = S 0 2) (e5 : T 5 = S 5) (e6 : T 6 = S 6) : FS T q W x := by
  unfold FS; rw [e1, e2, e5, e6]; exact h
theorem WN.r0 {S : nY} {j v : Nat} (h : WN S) (hj : j ≠ 1 ∧ j ≠ 2) : WN (nU S 0 j v) := by
  obtain ⟨q, W, h1, h2⟩ := h
  exact ⟨q, W, h1.cg (nU_nj (by omega)) (nU_row (by decide)) (nU_row (by decide)) (nU_row (by decide)), h2.cg (nU_nj (by omega)) (nU_nj (by omega)) (nU_row (by decide)) (nU_row (by decide))⟩
theorem WI.r0 {S : nY} {j v : Nat} (h : WI S) (hj : j ≠ 1 ∧ j ≠ 2) : WI (nU S 0 j v) := by
  obtain ⟨q, W, h1, h0, h2⟩ := h
  have e1 : nU S 0 j v 0 1 = S 0 1 := nU_nj (by omega)
  have e2 : nU S 0 j v 0 2 = S 0 2 := nU_nj (by omega)
  have e4 : nU S 0 j v 4 = S 4 := nU_row (by decide)
  exact ⟨q, W, h1.cg e2 (nU_row (by decide)) (nU_row (by decide)) (nU_row (by decide)), by rw [e1, e2, e4]; exact h0, by rw [e1, e4]; exact h2.cg e1 e2 (nU_row (by decide)) (nU_row (by decide))⟩
theorem WI.va {S : nY} {x : Nat} (h : WI S) (hk : S 1 (S 4 (S 0 1) - 1) = 6) (hx : x ≤ 99) : WI (nU S 3 (S 4 (S 0 1) - 1) x) := by
  obtain ⟨q, W, h1, h0, h2⟩ := h
  have e1 : ∀ j, nU S 3 (S 4 (S 0 1) - 1) x 0 j = S 0 j := fun j => nU_np (by decide)
  have e4 : nU S 3 (S 4 (S 0 1) - 1) x 4 = S 4 := nU_row (by decide)
  have e5 : nU S 3 (S 4 (S 0 1) - 1) x 5 = S 5 := nU_row (by decide)
  have e6 : nU S 3 (S 4 (S 0 1) - 1) x 6 = S 6 := nU_row (by decide)
  refine ⟨q, W, ⟨h1.1, fun n hn => ?_⟩, by rw [e1, e1, e4]; exact h0, by rw [e1, e4]; exact h2.cg (e1 1) (e1 2) e5 e6⟩
  rw [e1] at hn
  have h3 := h1.2 n hn
  by_cases g : n = S 4 (S 0 1) - 1
  · subst g
    obtain ⟨a1, a2, a3, a4, a5, a6, a7, a8⟩ := h3
    unfold ND
    rw [nU_eq, nU_np (b := 1) (by decide), nU_np (b := 2) (by decide)]
    exact ⟨a1, by omega, a3, a4, fun z => by omega, fun _ => hx, a7, a8⟩
  · exact h3.cg (nU_np (by decide)) (nU_np (by decide)) (nU_nj g) (fun _ _ => rfl)
def LVf (S : nY) : Prop := S 0 0 ≤ 6 ∧ (S 0 0 = 1 ∨ S 0 0 = 5 ∨ S 0 0 = 6 → WI S) ∧ (¬ (S 0 0 = 1 ∨ S 0 0 = 5 ∨ S 0 0 = 6) → WN S) ∧ (S 0 0 = 6 → S 1 (S 4 (S 0 1) - 1) = 6)
theorem LVf.i {T : nY} (h : T 0 0 = 1 ∨ T 0 0 = 5) (w : WI T) : LVf T := ⟨by omega, fun _ => w, fun g => absurd (by omega) g, fun g => by omega⟩
theorem LVf.n {T : nY} (h : T 0 0 = 0 ∨ T 0 0 = 2 ∨ T 0 0 = 3 ∨ T 0 0 = 4) (w : WN T) : LVf T := ⟨by omega, fun g => by omega, fun _ => w, fun g => by omega⟩
def RI (nb : Nat) (S : nY) : Prop := RB nb S ∧ LVf S
theorem RB.atom {nb m : Nat} {S : nY} (h : RB nb S) (hn : nb ≤ 190) : RB (nb + 1) (sAtom S m) := (h.put.st (by decide) (by have := h.2.1; omega)).s0
theorem RB.suf {nb k v : Nat} {S : nY} (h : RB nb S) (hn : nb ≤ 190) : RB (nb + 1) (sSuf S k v) := (h.put.st (by decide) (by have := h.2.1; omega)).s0
theorem RB.mk {nb : Nat} {T : nY} (h1 : T 0 1 ≤ 6) (h2 : T 0 2 ≤ nb) (h3 : T 0 3 < 2 ^ 26) (h4 : T 0 4 ≤ 1) (h5 : T 0 5 ≤ 9) (h6 : ∀ e, T 4 e ≤ 200 ∧ T 5 e ≤ 200 ∧ T 6 e ≤ 200) : RB nb T := ⟨h1, h2, h3, h4, h5, h6⟩
theorem RB.opn {nb : Nat} {S : nY} (h : RB nb S) (hd : S 0 1 < 6) : RB nb (sOpen S) := by
  obtain ⟨h1, h2, h3, h4, h5, h6⟩ := h
  refine RB.mk (by rw [sOpen_s.2]; omega) (by simpa [sOpen, sBeg, nU] using h2) (by simpa [sOpen, sBeg, nU] using h3) (by simpa [sOpen, sBeg, nU] using h4) (by simpa [sOpen, sBeg, nU] using h5) (fun e => ?_)
  have e4 : sOpen S 4 e = if e = S 0 1 + 1 then 0 else S 4 e := by simp [sOpen, sBeg, nU]
  have e5 : sOpen S 5 e = if e = S 0 1 + 1 then 0 else S 5 e := by simp [sOpen, sBeg, nU]
  have e6 : sOpen S 6 e = if e = S 0 1 + 1 then 0 else S 6 e := by simp [sOpen, sBeg, nU]
  have := h6 e
  rw [e4, e5, e6]; split <;> omega
theorem RB.clo {nb : Nat} {S : nY} (h : RB nb S) : RB nb (sClo S) := by
  obtain ⟨h1, h2, h3, h4, h5, h6⟩ := h
  refine RB.mk (by have e : sClo S 0 1 = S 0 1 - 1 := by { simp [sClo, nU] }
                   omega) (by simpa [sClo, nU] using h2) (by simpa [sClo, nU] using h3) (by simpa [sClo, nU] using h4) (by simpa [sClo, nU] using h5) (fun e => ?_)
  have e4 : sClo S 4 e = if e = S 0 1 - 1 then S 6 (S 0 1) else S 4 e := by simp [sClo, nU]
  have e5 : sClo S 5 e = S 5 e := by simp [sClo, nU]
  have e6 : sClo S 6 e = S 6 e := by simp [sClo, nU]
  have := h6 e; have := h6 (S 0 1)
  rw [e4, e5, e6]; split <;> omega
theorem RB.r0 {nb j v : Nat} {S : nY} (h : RB nb S) (hj : j ≠ 1 ∧ j ≠ 2) (h3 : j = 3 → v < 2 ^ 26) (h4 : j = 4 → v ≤ 1) (h5 : j = 5 → v ≤ 9) : RB nb (nU S 0 j v) := by
  obtain ⟨a1, a2, a3, a4, a5, a6⟩ := h
  have e : ∀ i, nU S 0 j v 0 i = if i = j then v else S 0 i := fun i => by simp [nU]
  refine RB.mk ?_ ?_ ?_ ?_ ?_ (fun e => by rw [nU_np (by decide), nU_np (by decide), nU_np (by decide)]; exact a6 e)
  · rw [e, if_neg (by omega)]; exact a1
  · rw [e, if_neg (by omega)]; exact a2
  · rw [e]; split <;> omega
  · rw [e]; split <;> omega
  · rw [e]; split <;> omega
theorem RB.va {nb n x : Nat} {S : nY} (h : RB nb S) : RB nb (nU S 3 n x) := by
  obtain ⟨a1, a2, a3, a4, a5, a6⟩ := h
  have e : ∀ b i, b ≠ 3 → nU S 3 n x b i = S b i := fun b i hb => nU_np hb
  refine RB.mk ?_ ?_ ?_ ?_ ?_ (fun i => ?_)
  · rw [e _ _ (by decide)]; exact a1
  · rw [e _ _ (by decide)]; exact a2
  · rw [e _ _ (by decide)]; exact a3
  · rw [e _ _ (by decide)]; exact a4
  · rw [e _ _ (by decide)]; exact a5
  · rw [e _ _ (by decide), e _ _ (by decide), e _ _ (by decide)]; exact a6 i
theorem RI.mono {nb nc : Nat} {S : nY} (h : RI nb S) (hn : nb ≤ nc) : RI nc S := ⟨h.1.mono hn, h.2⟩
theorem RI.at {nb c : Nat} {S : nY} (hB : RB nb S) (hW : WN S) (hn : nb ≤ 190) (ha : atP c (S 0 1)) : RI (nb + 1) (sAt S c) := by
  unfold sAt
  by_cases h1 : 97 ≤ c ∧ c ≤ 122
  · rw [if_pos h1]
    exact ⟨hB.atom hn, LVf.i (Or.inl sAtom_s.1) (hW.atom (Nat.pow_lt_pow_right (by decide) (by omega)))⟩
  rw [if_neg h1]
  by_cases h2 : c = 46
  · rw [if_pos h2]; exact ⟨hB.atom hn, LVf.i (Or.inl sAtom_s.1) (hW.atom (by decide))⟩
  rw [if_neg h2]
  by_cases h3 : c = 91
  · rw [if_pos h3]
    exact ⟨((((hB.r0 (j := 3) (v := 0) (by decide) (by decide) (by decide) (by decide)).r0 (j := 4) (v := 0) (by decide) (by decide) (by decide) (by decide))).s0).mono (by omega), LVf.n (Or.inr (Or.inl nU_eq)) (((hW.r0 (by decide)).r0 (by decide)).r0 (by decide))⟩
  rw [if_neg h3]
  have hd : S 0 1 < 6 := by unfold atP at ha; omega
  exact ⟨(hB.opn hd).mono (by omega), LVf.n (Or.inl sOpen_s.1) hW.opn⟩
theorem RI.aft {nb c : Nat} {S : nY} (hB : RB nb S) (hW : WI S) (hn : nb ≤ 180) (ha : c = 124 ∨ (c = 41 ∧ 0 < S 0 1) ∨ atP c (S 0 1)) : RI (nb + 2) (sAft S c) := by
  have hc := hB.2.1
  have hI := hW.item (by omega)
  have hBI := hB.item (by omega)
  have hdI : sItem S 0 1 = S 0 1 := sItem_d (by decide)
  have h5 : 1 ≤ sItem S 5 (S 0 1) := sItem_5 (by obtain ⟨q, W, -, h, -⟩ := hW; exact h.1)
  have hcI := hBI.2.1
  have hR := hI.row (by rw [hdI]; exact h5) (by omega)
  have hBR := hBI.row (by omega)
  unfold sAft
  by_cases h1 : c = 124
  · rw [if_pos h1]
    exact ⟨hBR.s0, LVf.n (Or.inl nU_eq) (hR.1.r0 (by decide))⟩
  rw [if_neg h1]
  by_cases h2 : c = 41
  · rw [if_pos h2]
    have hdR : sRow (sItem S) 0 1 = S 0 1 := (sRow_d (by decide)).trans hdI
    rw [hdI] at hR
    exact ⟨hBR.clo, LVf.i (Or.inl sClose_s.1) (hR.1.clo (by rw [hdR]; unfold atP at ha; omega) (by rw [hdR]; exact hR.2.1) (by rw [hdR]; exact hR.2.2))⟩
  rw [if_neg h2]
  exact RI.at hBI hI (by omega) (by rw [hdI]; unfold atP at *; omega)
theorem RI.sufx {nb c : Nat} {S : nY} (hB : RB nb S) (hW : WI S) (hn : nb ≤ 180) (ha : c = 42 ∨ c = 43 ∨ c = 63 ∨ c = 60 ∨ c = 124 ∨ (c = 41 ∧ 0 < S 0 1) ∨ atP c (S 0 1)) : RI (nb + 2) (sSufx S c) := by
  unfold sSufx
  by_cases h1 : c = 42
  · rw [if_pos h1]; exact ⟨(hB.suf (by omega)).mono (by omega), LVf.i (Or.inl sSuf_s.1) (hW.suf (by decide) (by decide))⟩
  rw [if_neg h1]
  by_cases h2 : c = 43
  · rw [if_pos h2]; exact ⟨(hB.suf (by omega)).mono (by omega), LVf.i (Or.inl sSuf_s.1) (hW.suf (by decide) (by decide))⟩
  rw [if_neg h2]
  by_cases h3 : c = 63
  · rw [if_pos h3]; exact ⟨(hB.suf (by omega)).mono (by omega), LVf.i (Or.inl sSuf_s.1) (hW.suf (by decide) (by decide))⟩
  rw [if_neg h3]
  by_cases h4 : c = 60
  · rw [if_pos h4]; exact ⟨hB.s0.mono (by omega), LVf.i (Or.inr nU_eq) (hW.r0 (by decide))⟩
  rw [if_neg h4]
  refine RI.aft hB hW hn ?_
  rcases ha with h | h | h | h | h | h | h
  · exact absurd h h1
  · exact absurd h h2
  · exact absurd h h3
  · exact absurd h h4
  · exact Or.inl h
  · exact Or.inr (Or.inl h)
  · exact Or.inr (Or.inr h)
theorem RI.set {nb c : Nat} {S : nY} (hB : RB nb S) (hW : WN S) (hn : nb ≤ 180) (ha : (97 ≤ c ∧ c ≤ 122) ∨ c = 94 ∨ c = 93) : RI (nb + 2) (sSet S c) := by
  have h3 := hB.2.2.1
  unfold sSet
  by_cases h1 : 97 ≤ c ∧ c ≤ 122
  · rw [if_pos h1]
    have hpw : 2 ^ (c - 97) < 2 ^ 26 := Nat.pow_lt_pow_right (by decide) (by omega)
    exact ⟨((hB.r0 (by decide) (fun _ => Nat.or_lt_two_pow h3 hpw) (fun g => absurd g (by decide)) (fun g => absurd g (by decide))).s0).mono (by omega), LVf.n (Or.inr (Or.inr (Or.inr nU_eq))) ((hW.r0 (by decide)).r0 (by decide))⟩
  rw [if_neg h1]
  by_cases h2 : c = 94
  · rw [if_pos h2]
    exact ⟨((hB.r0 (by decide) (by decide) (by decide) (by decide)).s0).mono (by omega), LVf.n (Or.inr (Or.inr (Or.inl nU_eq))) ((hW.r0 (by decide)).r0 (by decide))⟩
  rw [if_neg h2]
  refine ⟨(hB.atom (by omega)).mono (by omega), LVf.i (Or.inl sAtom_s.1) (hW.atom ?_)⟩
  split
  · exact h3
  · exact cmask_lt _
theorem RI.act {nb c : Nat} {S : nY} (h : RI nb S) (hn : nb ≤ 180) (hx : nx (S 0 0) c (S 0 1) ≠ none) : RI (nb + 2) (sAct S c) := by
  obtain ⟨hB, h6, hI, hN, hk⟩ := h
  have hd := hB.2.2.2.2.1
  unfold sAct
  by_cases h1 : S 0 0 = 2 ∨ S 0 0 = 3 ∨ S 0 0 = 4
  · rw [if_pos h1]
    refine RI.set hB (hN (by omega)) hn ?_
    rcases h1 with e | e | e
    · rw [e] at hx; exact Classical.byContradiction (fun z => hx (nx_2.mpr (by omega)))
    · rw [e] at hx; exact Classical.byContradiction (fun z => hx (nx_3.mpr (by omega)))
    · rw [e] at hx; exact Classical.byContradiction (fun z => hx (nx_4.mpr (by omega)))
  rw [if_neg h1]
  by_cases h2 : S 0 0 = 5
  · rw [if_pos h2]
    rw [h2] at hx
    have hc : 48 ≤ c ∧ c ≤ 57 := Classical.byContradiction (fun z => hx (nx_5.mpr (by omega)))
    have hW := (hI (by omega)).r0 (j := 5) (v := c - 48) (by decide)
    have hB5 := hB.r0 (j := 5) (v := c - 48) (by decide) (fun g => absurd g (by decide)) (fun g => absurd g (by decide)) (fun _ => by omega)
    have e1 : nU (sSuf (nU S 0 5 (c - 48)) 6 (c - 48)) 0 0 6 0 0 = 6 := nU_eq
    refine ⟨((hB5.suf (by omega)).s0).mono (by omega), by omega, fun _ => (hW.suf (by decide) (by omega)).r0 (by decide), fun g => absurd (by omega) g, fun _ => ?_⟩
    simp [sSuf, sPut, nU]
  rw [if_neg h2]
  by_cases h3 : S 0 0 = 6 ∧ 48 ≤ c ∧ c ≤ 57
  · rw [if_pos h3]
    exact ⟨(hB.va.s0).mono (by omega), LVf.i (Or.inl nU_eq) (((hI (by omega)).va (hk h3.1) (by omega)).r0 (by decide))⟩
  rw [if_neg h3]
  by_cases h4 : S 0 0 = 0
  · rw [if_pos h4]
    rw [h4] at hx
    exact (RI.at hB (hN (by omega)) (by omega) (Classical.byContradiction (fun z => hx (nx_0.mpr z)))).mono (by omega)
  rw [if_neg h4]
  refine RI.sufx hB (hI (by omega)) hn (Classical.byContradiction (fun z => hx ((nx_1 ?_).mpr z)))
  omega
/-- where a reading begins -/
def G0 (S : nY) : Prop := S 0 0 = 0 ∧ S 0 1 = 0 ∧ S 0 2 = 0 ∧ S 4 0 = 0 ∧ S 5 0 = 0 ∧ S 6 0 = 0 ∧ RB 0 S
theorem G0.ri {S : nY} (h : G0 S) : RI 0 S := by
  obtain ⟨h1, h2, h3, h4, h5, h6, h7⟩ := h
  refine ⟨h7, LVf.n (Or.inl h1) ⟨fun _ => 0, fun _ => 0, ⟨rfl, fun n hn => by omega⟩, fun e he => ?_, fun e he => by omega, ?_⟩⟩
  · have : e = 0 := by omega
    subst this; omega
  · show 0 + 0 + 0 + 0 ≤ S 0 2; omega
theorem G0.run {S0 : nY} (h : G0 S0) {ch : Nat → Nat} : ∀ k, k ≤ 90 → ∀ S, sRun S0 ch k = some S → RI (2 * k) S
  | 0, _, S, e => by cases e; exact h.ri
  | k + 1, hk, S, e => by
    have e2 : (sRun S0 ch k).bind (fun S => sTake S (ch k)) = some S := e
    cases hS : sRun S0 ch k with
    | none => rw [hS] at e2; cases e2
    | some T =>
      rw [hS] at e2
      have e3 : sTake T (ch k) = some S := e2
      have ih := h.run k (by omega) T hS
      unfold sTake at e3
      by_cases g : nx (T 0 0) (ch k) (T 0 1) = none
      · rw [if_pos g] at e3; cases e3
      · rw [if_neg g] at e3; cases e3
        exact ih.act (by omega) g
/-- the whole expression -/
def sEnd (S : nY) : nY := sRow (sItem S)
theorem sEnd_wf {S : nY} {nb : Nat} (h : RI nb S) (hn : nb ≤ 180) (ho : okS S) : RB (nb + 2) (sEnd S) ∧ ∃ q, NS (sEnd S) q := by
  obtain ⟨hB, h6, hI, hN, hk⟩ := h
  have hW := hI (by unfold okS at ho; omega)
  have hc := hB.2.1
  have hBI := hB.item (by omega)
  have hcI := hBI.2.1
  have hdI : sItem S 0 1 = S 0 1 := sItem_d (by decide)
  have h5 : 1 ≤ sItem S 5 (S 0 1) := sItem_5 (by obtain ⟨q, W, -, h, -⟩ := hW; exact h.1)
  obtain ⟨⟨q, W, h1, -⟩, -⟩ := (hW.item (by omega)).row (by rw [hdI]; exact h5) (by omega)
  exact ⟨hBI.row (by omega), q, h1⟩
theorem NS.wf {S : nY} {q : Nat → Nat} (h : NS S q) (hn : S 0 2 ≤ 24) : wfN (S 0 2) (S 1) (S 2) (S 3) ∧ szN (S 0 2) (S 1) (S 2) (S 3) (fun n => q (n + 1)) := by
  refine ⟨⟨hn, fun n hn => ?_⟩, fun n hn => ?_⟩
  · obtain ⟨h1, h2, h3, h4, h5, h6, -, -⟩ := h.2 n hn
    exact ⟨h1, h2, h3, fun g => (h4 g).1, fun g => (h5 g).1, h6⟩
  · obtain ⟨h1, h2, h3, h4, h5, h6, h7, h8⟩ := h.2 n hn
    refine ⟨h7, by show q (n + 1) ≤ 24; omega, fun g => ?_, fun g => ?_⟩
    · have := (h4 g).2; show q (S 2 n + 1) + 1 ≤ q (n + 1); omega
    · have := (h5 g).2; show q (S 2 n + 1) + q (S 3 n + 1) + 1 ≤ q (n + 1); omega
