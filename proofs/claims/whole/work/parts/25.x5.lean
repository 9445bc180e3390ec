theorem zlt_dec {q i : Nat} (hq : q < 2 ^ 30) (hi : i < 2 ^ 30) : (nI q - nI 1 < nI i) ↔ q ≤ i := by
  rw [Int32.lt_iff_toInt_lt, pk_sub_toInt hq (by omega), nI_toInt (by omega)]; omega
theorem nI_nem1 {a : Nat} (h : a < 2 ^ 31) : ¬ nI a = -1 := fun e => nI_pos h (by rw [e]; decide)
/-- but for the costs' table and what find found nothing has changed -/
def XKf (Y Z : zY) : Prop := (∀ q, (q < 20 ∨ 44 < q) → q ≠ 18 → q ≠ 0 → Z q = Y q) ∧ (∀ k, k ≠ 2 → Z 18 k = Y 18 k) ∧ ∀ k, k ≠ 8 → k ≠ 9 → Z 0 k = Y 0 k
theorem XKf.rf {Y : zY} : XKf Y Y := ⟨fun _ _ _ _ => rfl, fun _ _ => rfl, fun _ _ _ => rfl⟩
theorem XKf.lk {X Y Z : zY} (h : XKf X Y) (g : LK Y Z) : XKf X Z := ⟨fun q a b c => (g.1 q a b).trans (h.1 q a b c), fun k a => (g.2 k a).trans (h.2.1 k a), fun k a b => (congrFun (g.1 0 (by omega) (by omega)) k).trans (h.2.2 k a b)⟩
theorem XKf.p8 {X Y : zY} {v : Int32} (h : XKf X Y) : XKf X (zU Y 0 8 v) := ⟨fun q a b c => (zU_row c).trans (h.1 q a b c), fun k a => (zU_np (by decide)).trans (h.2.1 k a), fun k a b => (zU_nj a).trans (h.2.2 k a b)⟩
theorem XKf.p9 {X Y : zY} {v : Int32} (h : XKf X Y) : XKf X (zU Y 0 9 v) := ⟨fun q a b c => (zU_row c).trans (h.1 q a b c), fun k a => (zU_np (by decide)).trans (h.2.1 k a), fun k a b => (zU_nj b).trans (h.2.2 k a b)⟩
theorem XC.xkf {Y Z : zY} {nn : Nat} {kd lf rt tx : Nat → Nat} {len ad mi wr : Nat} {sz : Nat → Nat} (h : XC Y nn kd lf rt tx len ad mi wr sz) (k : XKf Y Z) : XC Z nn kd lf rt tx len ad mi wr sz := by
  obtain ⟨a1, a2, a3, a4, a5, a6, a7, a8, a9, b1, b2, b3, b4⟩ := h
  refine ⟨a1, a2, a3, a4, a5, a6, a7, ?_, ?_, ?_, ?_, ?_, ?_⟩
  · unfold XP at *
    rw [k.1 11 (by omega) (by omega) (by omega), k.1 (11 + 1) (by omega) (by omega) (by omega), k.1 (11 + 2) (by omega) (by omega) (by omega), k.1 (11 + 3) (by omega) (by omega) (by omega), k.1 (11 + 4) (by omega) (by omega) (by omega)]; exact a8
  · rw [k.1 16 (by omega) (by omega) (by omega)]; exact a9
  · rw [k.1 17 (by omega) (by omega) (by omega)]; exact b1
  · rw [k.2.1 3 (by omega)]; exact b2
  · rw [k.2.1 4 (by omega)]; exact b3
  · rw [k.2.1 5 (by omega)]; exact b4
theorem XT.p0 {Y : zY} {C : Nat → Nat → Nat → Nat} {nn k j : Nat} {v : Int32} (h : XT Y C nn k) (hn : nn ≤ 24) : XT (zU Y 0 j v) C nn k := ⟨(zU_np (by decide)).trans h.1, fun n hn2 a b h1 h2 => (zU_np (by omega)).trans (h.2 n hn2 a b h1 h2)⟩
/-- the pieces that were looked at, row i from q on; the least of them -/
def Rg (len i q a b : Nat) : Prop := a ≤ b ∧ b ≤ len ∧ (a < i ∨ a = i ∧ q ≤ b)
def FR (be : Nat) (K : Nat → Nat → Nat) (bd len i q : Nat) (f t : Int32) (u : Nat) : Prop := (f = -1 ∧ t = -1 ∧ u = bd + 1 ∧ ∀ a b, Rg len i q a b → ¬ K a b ≤ bd) ∨
  (∃ a b, f = nI a ∧ t = nI b ∧ u = K a b ∧ Rg len i q a b ∧ K a b ≤ bd ∧ (be = 0 → a = i) ∧ ∀ a' b', Rg len i q a' b' → K a' b' ≤ bd → ¬ bf be K a' b' a b)
theorem FR.le {be : Nat} {K : Nat → Nat → Nat} {bd len i q : Nat} {f t : Int32} {u : Nat} (h : FR be K bd len i q f t u) : u ≤ bd + 1 := by
  rcases h with ⟨-, -, h, -⟩ | ⟨a, b, -, -, h, -, h2, -⟩ <;> omega
theorem FR.nil {be : Nat} {K : Nat → Nat → Nat} {bd len : Nat} : FR be K bd len 0 (len + 1) (-1) (-1) (bd + 1) := Or.inl ⟨rfl, rfl, rfl, fun a b h => absurd h (by unfold Rg; omega)⟩
theorem FR.row {be : Nat} {K : Nat → Nat → Nat} {bd len i q : Nat} {f t : Int32} {u : Nat} (h : FR be K bd len i q f t u) (hq : q ≤ i) (hb : be ≠ 0 ∨ f = -1) (hl : len < 2 ^ 31) : FR be K bd len (i + 1) (len + 1) f t u := by
  have e : ∀ a b, Rg len (i + 1) (len + 1) a b ↔ Rg len i q a b := fun a b => by unfold Rg; omega
  rcases h with ⟨h1, h2, h3, h4⟩ | ⟨a, b, h1, h2, h3, h4, h5, h6, h7⟩
  · exact Or.inl ⟨h1, h2, h3, fun a b g => h4 a b ((e a b).mp g)⟩
  · refine Or.inr ⟨a, b, h1, h2, h3, (e a b).mpr h4, h5, fun g => ?_, fun a' b' g => h7 a' b' ((e a' b').mp g)⟩
    rcases hb with hb | hb
    · exact absurd g hb
    · exact absurd (h1.symm.trans hb) (nI_nem1 (by unfold Rg at h4; omega))
theorem FR.skip {be : Nat} {K : Nat → Nat → Nat} {bd len i q : Nat} {f t : Int32} {u : Nat} (h : FR be K bd len i q f t u) (hq : 1 ≤ q) (hn : u ≤ K i (q - 1)) : FR be K bd len i (q - 1) f t u := by
  have e : ∀ a b, Rg len i (q - 1) a b → Rg len i q a b ∨ (a = i ∧ b = q - 1) := fun a b => by unfold Rg; omega
  have e2 : ∀ a b, Rg len i q a b → Rg len i (q - 1) a b := fun a b => by unfold Rg; omega
  rcases h with ⟨h1, h2, h3, h4⟩ | ⟨a, b, h1, h2, h3, h4, h5, h6, h7⟩
  · refine Or.inl ⟨h1, h2, h3, fun a b g => ?_⟩
    rcases e a b g with g | ⟨rfl, rfl⟩
    · exact h4 a b g
    · omega
  · refine Or.inr ⟨a, b, h1, h2, h3, e2 a b h4, h5, h6, fun a' b' g g2 => ?_⟩
    rcases e a' b' g with g | ⟨rfl, rfl⟩
    · exact h7 a' b' g g2
    · unfold Rg at h4; unfold bf; omega
theorem FR.take {be : Nat} {K : Nat → Nat → Nat} {bd len i q : Nat} {f t : Int32} {u : Nat} (h : FR be K bd len i q f t u) (hbd : bd ≤ 999) (hq : 1 ≤ q) (hi : i ≤ q - 1) (hl : q - 1 ≤ len) (hn : ci (K i (q - 1)) < u) : FR be K bd len i (q - 1) (nI i) (nI (q - 1)) (ci (K i (q - 1))) := by
  have hu := h.le
  have hk : K i (q - 1) < 1000000 := by unfold ci at hn; split at hn <;> omega
  rw [ci_lt hk] at hn ⊢
  have e : ∀ a b, Rg len i (q - 1) a b → Rg len i q a b ∨ (a = i ∧ b = q - 1) := fun a b => by unfold Rg; omega
  refine Or.inr ⟨i, q - 1, rfl, rfl, rfl, ⟨hi, hl, Or.inr ⟨rfl, Nat.le_refl _⟩⟩, by omega, fun _ => rfl, fun a' b' g g2 => ?_⟩
  rcases e a' b' g with g | ⟨rfl, rfl⟩
  · rcases h with ⟨h1, h2, h3, h4⟩ | ⟨a, b, h1, h2, h3, h4, h5, h6, h7⟩
    · exact absurd g2 (h4 a' b' g)
    · have g3 := h7 a' b' g g2
      unfold Rg at g h4
      unfold bf at *
      omega
  · exact bf_irr
theorem FR.fin {be : Nat} {K : Nat → Nat → Nat} {bd len nn i q : Nat} {f t : Int32} {u : Nat} (h : FR be K bd len i q f t u) (hn : nn ≠ 0) (hi : (i = len + 1) ∨ (be = 0 ∧ q ≤ i ∧ f ≠ -1)) : Fnd be K bd len nn (len + 1) 0 f t := by
  rcases h with ⟨h1, h2, h3, h4⟩ | ⟨a, b, h1, h2, h3, h4, h5, h6, h7⟩
  · refine Or.inl ⟨h1, h2, fun a b g1 g2 g3 g4 => ?_⟩
    rcases hi with hi | hi
    · exact h4 a b (by unfold Rg; omega) g4.2
    · exact absurd h1 hi.2.2
  · have h4' := h4
    unfold Rg at h4'
    refine Or.inr ⟨a, b, h1, h2, h4'.1, h4'.2.1, hn, h5, fun a' b' g1 g2 g3 g4 => ?_⟩
    by_cases e : Rg len i q a' b'
    · exact h7 a' b' e g4.2
    · unfold Rg at e
      have h8 : i = len + 1 ∨ (be = 0 ∧ q ≤ i) := hi.elim Or.inl (fun z => Or.inr ⟨z.1, z.2.1⟩)
      unfold bf; omega
theorem cAI_ci {nn : Nat} {C : Nat → Nat → Nat → Nat} {len a b : Nat} (h1 : a ≤ b) (h2 : b ≤ len) (h3 : len ≤ 24) (h4 : nn ≠ 0) : (¬ ci (C (nn - 1) a b) < 268435456 → -1 = cAI nn C len (nI a) (nI b)) ∧ (ci (C (nn - 1) a b) < 268435456 → nI (ci (C (nn - 1) a b)) = cAI nn C len (nI a) (nI b)) := by
  rw [cAI_nat h1 h2 h3, if_neg h4]
  constructor
  · intro h
    have : 1000000 ≤ C (nn - 1) a b := by unfold ci at h; split at h <;> omega
    rw [if_pos this]
  · intro h
    have : C (nn - 1) a b < 1000000 := by unfold ci at h; split at h <;> omega
    rw [if_neg (by omega), ci_lt this]
theorem ci_bd {v bd : Nat} (h : bd ≤ 999) : ci v ≤ bd ↔ v ≤ bd := by
  unfold ci; split <;> omega
theorem eA_zero {K : Nat → Nat → Nat} {bd : Nat} : ∀ j, eA (eM K bd 0) j = nI 0
  | 0 => rfl
  | j + 1 => by
    have h : ∀ x n, eR (eM K bd 0) j x n = x := fun x n => by
      induction n with
      | zero => rfl
      | succ n ih => simp only [eR]; rw [if_neg (by unfold eM; rw [if_neg (by omega)]; omega), ih]
    simp only [eA]; rw [h, eA_zero j]
set_option maxHeartbeats 4000000 in
set_option maxRecDepth 100000 in
theorem kX5_isLetter (l : Launch) (G : zG) (A : Nat → Nat) (Y : zY) (k : Nat) (hk : k < 2 ^ 31) : ZI l yX5_isLetter cX5_isLetter 1 (.boolean) 0 0 G A Y [.int (nI k)] (fun r Y' => ((97 ≤ k ∧ k ≤ 122) ∧ r = nI 1 ∧ Y' = Y) ∨ (¬ (97 ≤ k ∧ k ≤ 122) ∧ r = nI 0 ∧ Y' = Y)) := by
  refine ZI.enter (by decide) (Nat.le_of_ble_eq_true rfl) ?_
  intro p e s m args below meth c R Q hxx hbb S hK hfr hlo hret H ls hP hS hl
  have hB : ∀ q, zAd A q → zAd A q := fun _ h => h
  have hl : lv_has ls 1 [(0, .int (nI k))] := hl
  have S : CallFix p m c cX5_isLetter 1 s args wsL_law RX5 := S
  refine lv_iload_n hxx hbb dX5_isLetter_0 rfl (lv_at hl 0 rfl) ?_
  refine lv_bipush (v := nI 97) hxx hbb dX5_isLetter_1 (by decide) ?_
  refine zcmp_lt (tgt := 16) S (by omega) (by omega) dX5_isLetter_3 (by decide) (fun c_1 => ?_) (fun c_1 => ?_)
  · skip
    refine lv_iconst (v := nI 0) hxx hbb dX5_isLetter_16 (by decide) ?_
    exact hret _ _ _ _ _ _ dX5_isLetter_17 (by first | rfl | decide) hP hS (Or.inr ⟨by omega, rfl, rfl⟩)
  · skip
    refine lv_iload_n hxx hbb dX5_isLetter_6 rfl (lv_at hl 0 rfl) ?_
    refine lv_bipush (v := nI 122) hxx hbb dX5_isLetter_7 (by decide) ?_
    refine zcmp_gt (tgt := 16) S (by omega) (by omega) dX5_isLetter_9 (by decide) (fun c_2 => ?_) (fun c_2 => ?_)
    · skip
      refine lv_iconst (v := nI 0) hxx hbb dX5_isLetter_16 (by decide) ?_
      exact hret _ _ _ _ _ _ dX5_isLetter_17 (by first | rfl | decide) hP hS (Or.inr ⟨by omega, rfl, rfl⟩)
    · skip
      refine lv_iconst (v := nI 1) hxx hbb dX5_isLetter_12 (by decide) ?_
      refine lv_goto (tgt := 17) hxx hbb dX5_isLetter_13 (by decide) ?_
      exact hret _ _ _ _ _ _ dX5_isLetter_17 (by first | rfl | decide) hP hS (Or.inl ⟨by omega, rfl, rfl⟩)

set_option maxHeartbeats 4000000 in
set_option maxRecDepth 100000 in
theorem kX5_isDigit (l : Launch) (G : zG) (A : Nat → Nat) (Y : zY) (k : Nat) (hk : k < 2 ^ 31) : ZI l yX5_isDigit cX5_isDigit 1 (.boolean) 0 0 G A Y [.int (nI k)] (fun r Y' => ((48 ≤ k ∧ k ≤ 57) ∧ r = nI 1 ∧ Y' = Y) ∨ (¬ (48 ≤ k ∧ k ≤ 57) ∧ r = nI 0 ∧ Y' = Y)) := by
  refine ZI.enter (by decide) (Nat.le_of_ble_eq_true rfl) ?_
  intro p e s m args below meth c R Q hxx hbb S hK hfr hlo hret H ls hP hS hl
  have hB : ∀ q, zAd A q → zAd A q := fun _ h => h
  have hl : lv_has ls 1 [(0, .int (nI k))] := hl
  have S : CallFix p m c cX5_isDigit 1 s args wsL_law RX5 := S
  refine lv_iload_n hxx hbb dX5_isDigit_0 rfl (lv_at hl 0 rfl) ?_
  refine lv_bipush (v := nI 48) hxx hbb dX5_isDigit_1 (by decide) ?_
  refine zcmp_lt (tgt := 16) S (by omega) (by omega) dX5_isDigit_3 (by decide) (fun c_1 => ?_) (fun c_1 => ?_)
  · skip
    refine lv_iconst (v := nI 0) hxx hbb dX5_isDigit_16 (by decide) ?_
    exact hret _ _ _ _ _ _ dX5_isDigit_17 (by first | rfl | decide) hP hS (Or.inr ⟨by omega, rfl, rfl⟩)
  · skip
    refine lv_iload_n hxx hbb dX5_isDigit_6 rfl (lv_at hl 0 rfl) ?_
    refine lv_bipush (v := nI 57) hxx hbb dX5_isDigit_7 (by decide) ?_
    refine zcmp_gt (tgt := 16) S (by omega) (by omega) dX5_isDigit_9 (by decide) (fun c_2 => ?_) (fun c_2 => ?_)
    · skip
      refine lv_iconst (v := nI 0) hxx hbb dX5_isDigit_16 (by decide) ?_
      exact hret _ _ _ _ _ _ dX5_isDigit_17 (by first | rfl | decide) hP hS (Or.inr ⟨by omega, rfl, rfl⟩)
    · skip
      refine lv_iconst (v := nI 1) hxx hbb dX5_isDigit_12 (by decide) ?_
      refine lv_goto (tgt := 17) hxx hbb dX5_isDigit_13 (by decide) ?_
      exact hret _ _ _ _ _ _ dX5_isDigit_17 (by first | rfl | decide) hP hS (Or.inl ⟨by omega, rfl, rfl⟩)

set_option maxHeartbeats 4000000 in
set_option maxRecDepth 100000 in
theorem kX5_isWeight (l : Launch) (G : zG) (A : Nat → Nat) (Y : zY) (x : Int32)  : ZI l yX5_isWeight cX5_isWeight 1 (.boolean) 0 0 G A Y [.int x] (fun r Y' => (wt x ∧ r = nI 1 ∧ Y' = Y) ∨ (¬ wt x ∧ r = nI 0 ∧ Y' = Y)) := by
  refine ZI.enter (by decide) (Nat.le_of_ble_eq_true rfl) ?_
  intro p e s m args below meth c R Q hxx hbb S hK hfr hlo hret H ls hP hS hl
  have hB : ∀ q, zAd A q → zAd A q := fun _ h => h
  have hl : lv_has ls 1 [(0, .int x)] := hl
  have S : CallFix p m c cX5_isWeight 1 s args wsL_law RX5 := S
  refine lv_iload_n hxx hbb dX5_isWeight_0 rfl (lv_at hl 0 rfl) ?_
  refine lv_if_lt (tgt := 14) hxx hbb dX5_isWeight_1 (by decide) (fun c_1 => ?_) (fun c_1 => ?_)
  · skip
    refine lv_iconst (v := nI 0) hxx hbb dX5_isWeight_14 (by decide) ?_
    exact hret _ _ _ _ _ _ dX5_isWeight_15 (by first | rfl | decide) hP hS (Or.inr ⟨by first | exact wt_n1 ‹_› | exact wt_n2 ‹_›, rfl, rfl⟩)
  · skip
    refine lv_iload_n hxx hbb dX5_isWeight_4 rfl (lv_at hl 0 rfl) ?_
    refine lv_bipush (v := nI 9) hxx hbb dX5_isWeight_5 (by decide) ?_
    refine lv_icmp_gt (tgt := 14) hxx hbb dX5_isWeight_7 (by decide) (fun c_2 => ?_) (fun c_2 => ?_)
    · skip
      refine lv_iconst (v := nI 0) hxx hbb dX5_isWeight_14 (by decide) ?_
      exact hret _ _ _ _ _ _ dX5_isWeight_15 (by first | rfl | decide) hP hS (Or.inr ⟨by first | exact wt_n1 ‹_› | exact wt_n2 ‹_›, rfl, rfl⟩)
    · skip
      refine lv_iconst (v := nI 1) hxx hbb dX5_isWeight_10 (by decide) ?_
      refine lv_goto (tgt := 15) hxx hbb dX5_isWeight_11 (by decide) ?_
      exact hret _ _ _ _ _ _ dX5_isWeight_15 (by first | rfl | decide) hP hS (Or.inl ⟨wt_ok ‹_› ‹_›, rfl, rfl⟩)

set_option maxHeartbeats 4000000 in
set_option maxRecDepth 100000 in
theorem kX5_forgetMatch (l : Launch) (G : zG) (A : Nat → Nat) (Y : zY)   : ZV l yX5_forgetMatch cX5_forgetMatch 1 0 0 G A Y [.ref (A 0)] (fun Y' => Y' = zU (zU Y 0 8 (-1)) 0 9 (-1)) := by
  refine ZV.enter (by decide) (Nat.le_of_ble_eq_true rfl) ?_
  intro p e s m args below meth c R Q hxx hbb S hK hfr hlo hret H ls hP hS hl
  have hB : ∀ q, zAd A q → zAd A q := fun _ h => h
  have hl : lv_has ls 1 [(0, .ref (A 0))] := hl
  have S : CallFix p m c cX5_forgetMatch 1 s args wsL_law RX5 := S
  refine lv_aload_n hxx hbb dX5_forgetMatch_0 rfl (lv_at hl 0 rfl) ?_
  refine lv_iconst (v := (-1)) hxx hbb dX5_forgetMatch_1 (by decide) ?_
  refine zpX5_55 S hK hP hS hB 0 (by decide) zk_0 dX5_forgetMatch_2 (fun H locs hP hS => ?_)
  refine lv_aload_n hxx hbb dX5_forgetMatch_5 rfl (lv_at hl 0 rfl) ?_
  refine lv_iconst (v := (-1)) hxx hbb dX5_forgetMatch_6 (by decide) ?_
  refine zpX5_58 S hK hP hS hB 0 (by decide) zk_0 dX5_forgetMatch_7 (fun H locs hP hS => ?_)
  exact hret _ _ _ _ _ dX5_forgetMatch_10 hP hS (rfl)

set_option maxHeartbeats 4000000 in
set_option maxRecDepth 100000 in
theorem kX5_nodes (l : Launch) (G : zG) (A : Nat → Nat) (Y : zY)   : ZI l yX5_nodes cX5_nodes 1 (.int) 0 0 G A Y [.ref (A 0)] (fun r Y' => r = Y 11 4 ∧ Y' = Y) := by
  refine ZI.enter (by decide) (Nat.le_of_ble_eq_true rfl) ?_
  intro p e s m args below meth c R Q hxx hbb S hK hfr hlo hret H ls hP hS hl
  have hB : ∀ q, zAd A q → zAd A q := fun _ h => h
  have hl : lv_has ls 1 [(0, .ref (A 0))] := hl
  have S : CallFix p m c cX5_nodes 1 s args wsL_law RX5 := S
  refine lv_aload_n hxx hbb dX5_nodes_0 rfl (lv_at hl 0 rfl) ?_
  refine zgX5_27 S hK hP 0 (by decide) zk_0 dX5_nodes_1 ?_
  refine zgX5_68 S hK hP 11 (by decide) zk_11 (v := Y 11 4) (rfl) dX5_nodes_4 ?_
  exact hret _ _ _ _ _ _ dX5_nodes_7 (rfl) hP hS (⟨rfl, rfl⟩)

set_option maxHeartbeats 4000000 in
set_option maxRecDepth 100000 in
theorem kX5_words (l : Launch) (G : zG) (A : Nat → Nat) (Y : zY)   : ZI l yX5_words cX5_words 1 (.int) 0 0 G A Y [.ref (A 0)] (fun r Y' => r = Y 45 1 ∧ Y' = Y) := by
  refine ZI.enter (by decide) (Nat.le_of_ble_eq_true rfl) ?_
  intro p e s m args below meth c R Q hxx hbb S hK hfr hlo hret H ls hP hS hl
  have hB : ∀ q, zAd A q → zAd A q := fun _ h => h
  have hl : lv_has ls 1 [(0, .ref (A 0))] := hl
  have S : CallFix p m c cX5_words 1 s args wsL_law RX5 := S
  refine lv_aload_n hxx hbb dX5_words_0 rfl (lv_at hl 0 rfl) ?_
  refine zgX5_48 S hK hP 0 (by decide) zk_0 dX5_words_1 ?_
  refine zgX5_114 S hK hP 45 (by decide) zk_45 (v := Y 45 1) (rfl) dX5_words_4 ?_
  exact hret _ _ _ _ _ _ dX5_words_7 (rfl) hP hS (⟨rfl, rfl⟩)

set_option maxHeartbeats 4000000 in
set_option maxRecDepth 100000 in
theorem kX5_from (l : Launch) (G : zG) (A : Nat → Nat) (Y : zY)   : ZI l yX5_from cX5_from 1 (.int) 0 0 G A Y [.ref (A 0)] (fun r Y' => r = Y 0 8 ∧ Y' = Y) := by
  refine ZI.enter (by decide) (Nat.le_of_ble_eq_true rfl) ?_
  intro p e s m args below meth c R Q hxx hbb S hK hfr hlo hret H ls hP hS hl
  have hB : ∀ q, zAd A q → zAd A q := fun _ h => h
  have hl : lv_has ls 1 [(0, .ref (A 0))] := hl
  have S : CallFix p m c cX5_from 1 s args wsL_law RX5 := S
  refine lv_aload_n hxx hbb dX5_from_0 rfl (lv_at hl 0 rfl) ?_
  refine zgX5_55 S hK hP 0 (by decide) zk_0 (v := Y 0 8) (rfl) dX5_from_1 ?_
  exact hret _ _ _ _ _ _ dX5_from_4 (rfl) hP hS (⟨rfl, rfl⟩)

set_option maxHeartbeats 4000000 in
set_option maxRecDepth 100000 in
theorem kX5_to (l : Launch) (G : zG) (A : Nat → Nat) (Y : zY)   : ZI l yX5_to cX5_to 1 (.int) 0 0 G A Y [.ref (A 0)] (fun r Y' => r = Y 0 9 ∧ Y' = Y) := by
  refine ZI.enter (by decide) (Nat.le_of_ble_eq_true rfl) ?_
  intro p e s m args below meth c R Q hxx hbb S hK hfr hlo hret H ls hP hS hl
  have hB : ∀ q, zAd A q → zAd A q := fun _ h => h
  have hl : lv_has ls 1 [(0, .ref (A 0))] := hl
  have S : CallFix p m c cX5_to 1 s args wsL_law RX5 := S
  refine lv_aload_n hxx hbb dX5_to_0 rfl (lv_at hl 0 rfl) ?_
  refine zgX5_58 S hK hP 0 (by decide) zk_0 (v := Y 0 9) (rfl) dX5_to_1 ?_
  exact hret _ _ _ _ _ _ dX5_to_4 (rfl) hP hS (⟨rfl, rfl⟩)

set_option maxHeartbeats 4000000 in
set_option maxRecDepth 100000 in
theorem kX5_type (l : Launch) (G : zG) (A : Nat → Nat) (Y : zY) (n k : Nat) (hn : n ≤ 40) (hk : k < 65536) (h0 : Y 0 1 = nI n) : ZI l yX5_type cX5_type 2 (.boolean) 0 0 G A Y [.ref (A 0), .int (nI k)] (fun r Y' => ((33 ≤ k ∧ k ≤ 126 ∧ n < 40) ∧ r = nI 1 ∧ Y' = zU (zU Y 1 n (nI k)) 0 1 (nI (n + 1))) ∨ (¬ (33 ≤ k ∧ k ≤ 126 ∧ n < 40) ∧ r = nI 0 ∧ Y' = Y)) := by
  refine ZI.enter (by decide) (Nat.le_of_ble_eq_true rfl) ?_
  intro p e s m args below meth c R Q hxx hbb S hK hfr hlo hret H ls hP hS hl
  have hB : ∀ q, zAd A q → zAd A q := fun _ h => h
  have hl : lv_has ls 2 [(0, .ref (A 0)), (1, .int (nI k))] := hl
  have S : CallFix p m c cX5_type 2 s args wsL_law RX5 := S
  refine lv_iload_n hxx hbb dX5_type_0 rfl (lv_at hl 1 rfl) ?_
  refine lv_bipush (v := nI 33) hxx hbb dX5_type_1 (by decide) ?_
  refine zcmp_lt (tgt := 21) S (by omega) (by omega) dX5_type_3 (by decide) (fun c_1 => ?_) (fun c_1 => ?_)
  · skip
    refine lv_iconst (v := nI 0) hxx hbb dX5_type_21 (by decide) ?_
    exact hret _ _ _ _ _ _ dX5_type_22 (by first | rfl | decide) hP hS (Or.inr ⟨by omega, rfl, rfl⟩)
  · skip
    refine lv_iload_n hxx hbb dX5_type_6 rfl (lv_at hl 1 rfl) ?_
    refine lv_bipush (v := nI 126) hxx hbb dX5_type_7 (by decide) ?_
    refine zcmp_gt (tgt := 21) S (by omega) (by omega) dX5_type_9 (by decide) (fun c_2 => ?_) (fun c_2 => ?_)
    · skip
      refine lv_iconst (v := nI 0) hxx hbb dX5_type_21 (by decide) ?_
      exact hret _ _ _ _ _ _ dX5_type_22 (by first | rfl | decide) hP hS (Or.inr ⟨by omega, rfl, rfl⟩)
    · skip
      refine lv_aload_n hxx hbb dX5_type_12 rfl (lv_at hl 0 rfl) ?_
      refine zgX5_13 S hK hP 0 (by decide) zk_0 (v := nI n) (h0) dX5_type_13 ?_
      refine lv_bipush (v := nI 40) hxx hbb dX5_type_16 (by decide) ?_
      refine zcmp_lt (tgt := 23) S (by omega) (by omega) dX5_type_18 (by decide) (fun c_3 => ?_) (fun c_3 => ?_)
      · skip
        refine lv_aload_n hxx hbb dX5_type_23 rfl (lv_at hl 0 rfl) ?_
        refine zgX5_9 S hK hP 0 (by decide) zk_0 dX5_type_24 ?_
        refine lv_aload_n hxx hbb dX5_type_27 rfl (lv_at hl 0 rfl) ?_
        refine zgX5_13 S hK hP 0 (by decide) zk_0 (v := nI n) (h0) dX5_type_28 ?_
        refine lv_iload_n hxx hbb dX5_type_31 rfl (lv_at hl 1 rfl) ?_
        refine zcastN S hK hP hS hB 1 40 (by decide) zk_1 zl_1 (by omega) (chr_vp hk) dX5_type_32 (fun H locs hP hS => ?_)
        refine lv_aload_n hxx hbb dX5_type_33 rfl (lv_at hl 0 rfl) ?_
        refine lv_dup hxx hbb dX5_type_34 rfl ?_
        refine zgX5_13 S hK hP 0 (by decide) zk_0 (v := nI n) ((zU_np (by decide)).trans (h0)) dX5_type_35 ?_
        refine lv_iconst (v := nI 1) hxx hbb dX5_type_38 (by decide) ?_
        refine zaddN S dX5_type_39 ?_
        refine zpX5_13 S hK hP hS hB 0 (by decide) zk_0 dX5_type_40 (fun H locs hP hS => ?_)
        refine lv_iconst (v := nI 1) hxx hbb dX5_type_43 (by decide) ?_
        exact hret _ _ _ _ _ _ dX5_type_44 (by first | rfl | decide) hP hS (Or.inl ⟨by omega, rfl, rfl⟩)
      · skip
        refine lv_iconst (v := nI 0) hxx hbb dX5_type_21 (by decide) ?_
        exact hret _ _ _ _ _ _ dX5_type_22 (by first | rfl | decide) hP hS (Or.inr ⟨by omega, rfl, rfl⟩)

set_option maxHeartbeats 4000000 in
set_option maxRecDepth 100000 in
theorem kX5_weights (l : Launch) (G : zG) (A : Nat → Nat) (Y : zY) (x y z : Int32)  : ZI l yX5_weights cX5_weights 4 (.boolean) 2 43 G A Y [.ref (A 0), .int x, .int y, .int z] (fun r Y' => ((wt x ∧ wt y ∧ wt z) ∧ r = nI 1 ∧ Y' = zU (zU (zU (zU (zU (zU Y 18 3 x) 18 4 y) 18 5 z) 18 2 (nI 0)) 0 8 (-1)) 0 9 (-1)) ∨ (¬ (wt x ∧ wt y ∧ wt z) ∧ r = nI 0 ∧ Y' = Y)) := by
  refine ZI.enter (by decide) (Nat.le_of_ble_eq_true rfl) ?_
  intro p e s m args below meth c R Q hxx hbb S hK hfr hlo hret H ls hP hS hl
  have hB : ∀ q, zAd A q → zAd A q := fun _ h => h
  have hl : lv_has ls 4 [(0, .ref (A 0)), (1, .int x), (2, .int y), (3, .int z)] := hl
  have S : CallFix p m c cX5_weights 4 s args wsL_law RX5 := S
  refine lv_iload_n hxx hbb dX5_weights_0 rfl (lv_at hl 1 rfl) ?_
  refine ZI.callS S hK hP hS hB (kX5_isWeight l G A Y x) zwX5_81 zdX5_isWeight rfl ⟨Nat.le_trans (by decide) hfr, Nat.le_trans (by decide) hlo⟩ rfl (Nat.le_of_ble_eq_true rfl) hl.1 dX5_weights_1 ⟨Nat.zero_le _, Nat.zero_le _⟩ (fun r_1 Y_2 H locs hq_3 hP hS => ?_)
  rcases hq_3 with ⟨hb_4, hr9, hY9⟩ | ⟨hb_4, hr9, hY9⟩
  · skip
    subst hr9; rw [hY9] at hP
    refine zif_eq (tgt := 21) S (by omega) dX5_weights_4 (by decide) (fun c_5 => ?_) (fun c_5 => ?_)
    · skip
      exact absurd c_5 (by decide)
    · skip
      refine lv_iload_n hxx hbb dX5_weights_7 rfl (lv_at hl 2 rfl) ?_
      refine ZI.callS S hK hP hS hB (kX5_isWeight l G A Y y) zwX5_81 zdX5_isWeight rfl ⟨Nat.le_trans (by decide) hfr, Nat.le_trans (by decide) hlo⟩ rfl (Nat.le_of_ble_eq_true rfl) hl.1 dX5_weights_8 ⟨Nat.zero_le _, Nat.zero_le _⟩ (fun r_6 Y_7 H locs hq_8 hP hS => ?_)
      rcases hq_8 with ⟨hb_9, hr9, hY9⟩ | ⟨hb_9, hr9, hY9⟩
      · skip
        subst hr9; rw [hY9] at hP
        refine zif_eq (tgt := 21) S (by omega) dX5_weights_11 (by decide) (fun c_10 => ?_) (fun c_10 => ?_)
        · skip
          exact absurd c_10 (by decide)
        · skip
          refine lv_iload_n hxx hbb dX5_weights_14 rfl (lv_at hl 3 rfl) ?_
          refine ZI.callS S hK hP hS hB (kX5_isWeight l G A Y z) zwX5_81 zdX5_isWeight rfl ⟨Nat.le_trans (by decide) hfr, Nat.le_trans (by decide) hlo⟩ rfl (Nat.le_of_ble_eq_true rfl) hl.1 dX5_weights_15 ⟨Nat.zero_le _, Nat.zero_le _⟩ (fun r_11 Y_12 H locs hq_13 hP hS => ?_)
          rcases hq_13 with ⟨hb_14, hr9, hY9⟩ | ⟨hb_14, hr9, hY9⟩
          · skip
            subst hr9; rw [hY9] at hP
            refine zif_ne (tgt := 23) S (by omega) dX5_weights_18 (by decide) (fun c_15 => ?_) (fun c_15 => ?_)
            · skip
              refine lv_aload_n hxx hbb dX5_weights_23 rfl (lv_at hl 0 rfl) ?_
              refine zgX5_41 S hK hP 0 (by decide) zk_0 dX5_weights_24 ?_
              refine lv_iload_n hxx hbb dX5_weights_27 rfl (lv_at hl 1 rfl) ?_
              refine lv_iload_n hxx hbb dX5_weights_28 rfl (lv_at hl 2 rfl) ?_
              refine lv_iload_n hxx hbb dX5_weights_29 rfl (lv_at hl 3 rfl) ?_
              refine ZV.callVN S hK hP hS hB (kX0_weigh l G A Y x y z) (znX5_85) zwX5_85 zdX0_weigh rfl ⟨Nat.le_trans (by decide) hfr, Nat.le_trans (by decide) hlo⟩ (by decide) (zcK4 zk_18) rfl rfl (Nat.le_of_ble_eq_true rfl) hl.1 dX5_weights_30 ⟨Nat.zero_le _, Nat.zero_le _⟩ (fun Y_17 H locs hq_18 hP hS => ?_)
              rw [hq_18] at hP
              refine lv_aload_n hxx hbb dX5_weights_33 rfl (lv_at hl 0 rfl) ?_
              refine ZV.callV S hK hP hS hB (kX5_forgetMatch l G A (zU (zU (zU (zU Y 18 3 x) 18 4 y) 18 5 z) 18 2 (nI 0))) zwX5_78 zdX5_forgetMatch rfl ⟨Nat.le_trans (by decide) hfr, Nat.le_trans (by decide) hlo⟩ (by decide) (zcK0 zk_0) rfl rfl (Nat.le_of_ble_eq_true rfl) hl.1 dX5_weights_34 ⟨Nat.zero_le _, Nat.zero_le _⟩ (fun Y_20 H locs hq_21 hP hS => ?_)
              rw [hq_21] at hP
              refine lv_iconst (v := nI 1) hxx hbb dX5_weights_37 (by decide) ?_
              exact hret _ _ _ _ _ _ dX5_weights_38 (by first | rfl | decide) hP hS (Or.inl ⟨⟨‹_›, ‹_›, ‹_›⟩, rfl, rfl⟩)
            · skip
              exact absurd c_15 (by decide)
          · skip
            subst hr9; rw [hY9] at hP
            refine zif_ne (tgt := 23) S (by omega) dX5_weights_18 (by decide) (fun c_22 => ?_) (fun c_22 => ?_)
            · skip
              exact absurd c_22 (by decide)
            · skip
              refine lv_iconst (v := nI 0) hxx hbb dX5_weights_21 (by decide) ?_
              exact hret _ _ _ _ _ _ dX5_weights_22 (by first | rfl | decide) hP hS (Or.inr ⟨by first | exact fun q => ‹¬ wt x› q.1 | exact fun q => ‹¬ wt y› q.2.1 | exact fun q => ‹¬ wt z› q.2.2, rfl, rfl⟩)
      · skip
        subst hr9; rw [hY9] at hP
        refine zif_eq (tgt := 21) S (by omega) dX5_weights_11 (by decide) (fun c_23 => ?_) (fun c_23 => ?_)
        · skip
          refine lv_iconst (v := nI 0) hxx hbb dX5_weights_21 (by decide) ?_
          exact hret _ _ _ _ _ _ dX5_weights_22 (by first | rfl | decide) hP hS (Or.inr ⟨by first | exact fun q => ‹¬ wt x› q.1 | exact fun q => ‹¬ wt y› q.2.1 | exact fun q => ‹¬ wt z› q.2.2, rfl, rfl⟩)
        · skip
          exact absurd c_23 (by decide)
  · skip
    subst hr9; rw [hY9] at hP
    refine zif_eq (tgt := 21) S (by omega) dX5_weights_4 (by decide) (fun c_24 => ?_) (fun c_24 => ?_)
    · skip
      refine lv_iconst (v := nI 0) hxx hbb dX5_weights_21 (by decide) ?_
      exact hret _ _ _ _ _ _ dX5_weights_22 (by first | rfl | decide) hP hS (Or.inr ⟨by first | exact fun q => ‹¬ wt x› q.1 | exact fun q => ‹¬ wt y› q.2.1 | exact fun q => ‹¬ wt z› q.2.2, rfl, rfl⟩)
    · skip
      exact absurd c_24 (by decide)

set_option maxHeartbeats 4000000 in
set_option maxRecDepth 100000 in
theorem kX5_bound (l : Launch) (G : zG) (A : Nat → Nat) (Y : zY) (x : Int32)  : ZI l yX5_bound cX5_bound 2 (.boolean) 1 20 G A Y [.ref (A 0), .int x] (fun r Y' => ((0 ≤ x ∧ x ≤ 999) ∧ r = nI 1 ∧ Y' = zU (zU (zU Y 0 7 x) 0 8 (-1)) 0 9 (-1)) ∨ (¬ (0 ≤ x ∧ x ≤ 999) ∧ r = nI 0 ∧ Y' = Y)) := by
  refine ZI.enter (by decide) (Nat.le_of_ble_eq_true rfl) ?_
  intro p e s m args below meth c R Q hxx hbb S hK hfr hlo hret H ls hP hS hl
  have hB : ∀ q, zAd A q → zAd A q := fun _ h => h
  have hl : lv_has ls 2 [(0, .ref (A 0)), (1, .int x)] := hl
  have S : CallFix p m c cX5_bound 2 s args wsL_law RX5 := S
  refine lv_iload_n hxx hbb dX5_bound_0 rfl (lv_at hl 1 rfl) ?_
  refine lv_if_lt (tgt := 11) hxx hbb dX5_bound_1 (by decide) (fun c_1 => ?_) (fun c_1 => ?_)
  · skip
    refine lv_iconst (v := nI 0) hxx hbb dX5_bound_11 (by decide) ?_
    exact hret _ _ _ _ _ _ dX5_bound_12 (by first | rfl | decide) hP hS (Or.inr ⟨zb_no (by first | exact Or.inl ‹_› | exact Or.inr ‹_›), rfl, rfl⟩)
  · skip
    refine lv_iload_n hxx hbb dX5_bound_4 rfl (lv_at hl 1 rfl) ?_
    refine lv_sipush (v := nI 999) hxx hbb dX5_bound_5 (by decide) ?_
    refine lv_icmp_le (tgt := 13) hxx hbb dX5_bound_8 (by decide) (fun c_2 => ?_) (fun c_2 => ?_)
    · skip
      refine lv_aload_n hxx hbb dX5_bound_13 rfl (lv_at hl 0 rfl) ?_
      refine lv_iload_n hxx hbb dX5_bound_14 rfl (lv_at hl 1 rfl) ?_
      refine zpX5_52 S hK hP hS hB 0 (by decide) zk_0 dX5_bound_15 (fun H locs hP hS => ?_)
      refine lv_aload_n hxx hbb dX5_bound_18 rfl (lv_at hl 0 rfl) ?_
      refine ZV.callV S hK hP hS hB (kX5_forgetMatch l G A (zU Y 0 7 x)) zwX5_78 zdX5_forgetMatch rfl ⟨Nat.le_trans (by decide) hfr, Nat.le_trans (by decide) hlo⟩ (by decide) (zcK0 zk_0) rfl rfl (Nat.le_of_ble_eq_true rfl) hl.1 dX5_bound_19 ⟨Nat.zero_le _, Nat.zero_le _⟩ (fun Y_4 H locs hq_5 hP hS => ?_)
      rw [hq_5] at hP
      refine lv_iconst (v := nI 1) hxx hbb dX5_bound_22 (by decide) ?_
      exact hret _ _ _ _ _ _ dX5_bound_23 (by first | rfl | decide) hP hS (Or.inl ⟨zb_ok ‹_› ‹_›, rfl, rfl⟩)
    · skip
      refine lv_iconst (v := nI 0) hxx hbb dX5_bound_11 (by decide) ?_
      exact hret _ _ _ _ _ _ dX5_bound_12 (by first | rfl | decide) hP hS (Or.inr ⟨zb_no (by first | exact Or.inl ‹_› | exact Or.inr ‹_›), rfl, rfl⟩)

set_option maxHeartbeats 4000000 in
set_option maxRecDepth 100000 in
theorem kX5_write (l : Launch) (G : zG) (A : Nat → Nat) (Y : zY) (n k : Nat) (hn : n ≤ 24) (hk : k < 65536) (h0 : Y 16 1 = nI n) : ZI l yX5_write cX5_write 2 (.boolean) 1 21 G A Y [.ref (A 0), .int (nI k)] (fun r Y' => (((97 ≤ k ∧ k ≤ 122) ∧ n < 24) ∧ r = nI 1 ∧ Y' = zU (zU (zU (zU Y 17 n (nI k)) 16 1 (nI (n + 1))) 0 8 (-1)) 0 9 (-1)) ∨ (¬ ((97 ≤ k ∧ k ≤ 122) ∧ n < 24) ∧ r = nI 0 ∧ Y' = Y)) := by
  refine ZI.enter (by decide) (Nat.le_of_ble_eq_true rfl) ?_
  intro p e s m args below meth c R Q hxx hbb S hK hfr hlo hret H ls hP hS hl
  have hB : ∀ q, zAd A q → zAd A q := fun _ h => h
  have hl : lv_has ls 2 [(0, .ref (A 0)), (1, .int (nI k))] := hl
  have S : CallFix p m c cX5_write 2 s args wsL_law RX5 := S
  refine lv_iload_n hxx hbb dX5_write_0 rfl (lv_at hl 1 rfl) ?_
  refine ZI.callS S hK hP hS hB (kX5_isLetter l G A Y k (by omega)) zwX5_89 zdX5_isLetter rfl ⟨Nat.le_trans (by decide) hfr, Nat.le_trans (by decide) hlo⟩ rfl (Nat.le_of_ble_eq_true rfl) hl.1 dX5_write_1 ⟨Nat.zero_le _, Nat.zero_le _⟩ (fun r_1 Y_2 H locs hq_3 hP hS => ?_)
  rcases hq_3 with ⟨hb_4, hr9, hY9⟩ | ⟨hb_4, hr9, hY9⟩
  · skip
    subst hr9; rw [hY9] at hP
    refine zif_eq (tgt := 19) S (by omega) dX5_write_4 (by decide) (fun c_5 => ?_) (fun c_5 => ?_)
    · skip
      exact absurd c_5 (by decide)
    · skip
      refine lv_aload_n hxx hbb dX5_write_7 rfl (lv_at hl 0 rfl) ?_
      refine zgX5_34 S hK hP 0 (by decide) zk_0 dX5_write_8 ?_
      refine zgX5_93 S hK hP 16 (by decide) zk_16 (v := nI n) (h0) dX5_write_11 ?_
      refine lv_bipush (v := nI 24) hxx hbb dX5_write_14 (by decide) ?_
      refine zcmp_lt (tgt := 21) S (by omega) (by omega) dX5_write_16 (by decide) (fun c_6 => ?_) (fun c_6 => ?_)
      · skip
        refine lv_aload_n hxx hbb dX5_write_21 rfl (lv_at hl 0 rfl) ?_
        refine zgX5_34 S hK hP 0 (by decide) zk_0 dX5_write_22 ?_
        refine lv_iload_n hxx hbb dX5_write_25 rfl (lv_at hl 1 rfl) ?_
        refine ZV.callVN S hK hP hS hB (kX3_append l G A Y 16 n k zLP_text h0 (by omega) (by omega)) (znX5_94) zwX5_94 zdX3_append rfl ⟨Nat.le_trans (by decide) hfr, Nat.le_trans (by decide) hlo⟩ (by decide) (zcK3 zk_16) rfl rfl (Nat.le_of_ble_eq_true rfl) hl.1 dX5_write_26 ⟨Nat.zero_le _, Nat.zero_le _⟩ (fun Y_8 H locs hq_9 hP hS => ?_)
        rw [hq_9] at hP
        refine lv_aload_n hxx hbb dX5_write_29 rfl (lv_at hl 0 rfl) ?_
        refine ZV.callV S hK hP hS hB (kX5_forgetMatch l G A (zU (zU Y 17 n (nI k)) 16 1 (nI (n + 1)))) zwX5_78 zdX5_forgetMatch rfl ⟨Nat.le_trans (by decide) hfr, Nat.le_trans (by decide) hlo⟩ (by decide) (zcK0 zk_0) rfl rfl (Nat.le_of_ble_eq_true rfl) hl.1 dX5_write_30 ⟨Nat.zero_le _, Nat.zero_le _⟩ (fun Y_11 H locs hq_12 hP hS => ?_)
        rw [hq_12] at hP
        refine lv_iconst (v := nI 1) hxx hbb dX5_write_33 (by decide) ?_
        exact hret _ _ _ _ _ _ dX5_write_34 (by first | rfl | decide) hP hS (Or.inl ⟨by omega, rfl, rfl⟩)
      · skip
        refine lv_iconst (v := nI 0) hxx hbb dX5_write_19 (by decide) ?_
        exact hret _ _ _ _ _ _ dX5_write_20 (by first | rfl | decide) hP hS (Or.inr ⟨by omega, rfl, rfl⟩)
  · skip
    subst hr9; rw [hY9] at hP
    refine zif_eq (tgt := 19) S (by omega) dX5_write_4 (by decide) (fun c_13 => ?_) (fun c_13 => ?_)
    · skip
      refine lv_iconst (v := nI 0) hxx hbb dX5_write_19 (by decide) ?_
      exact hret _ _ _ _ _ _ dX5_write_20 (by first | rfl | decide) hP hS (Or.inr ⟨by omega, rfl, rfl⟩)
    · skip
      exact absurd c_13 (by decide)

set_option maxHeartbeats 4000000 in
set_option maxRecDepth 100000 in
theorem kX5_erase (l : Launch) (G : zG) (A : Nat → Nat) (Y : zY)   : ZV l yX5_erase cX5_erase 1 1 20 G A Y [.ref (A 0)] (fun Y' => Y' = zU (zU (zU (zU Y 16 1 (nI 0)) 18 2 (nI 0)) 0 8 (-1)) 0 9 (-1)) := by
  refine ZV.enter (by decide) (Nat.le_of_ble_eq_true rfl) ?_
  intro p e s m args below meth c R Q hxx hbb S hK hfr hlo hret H ls hP hS hl
  have hB : ∀ q, zAd A q → zAd A q := fun _ h => h
  have hl : lv_has ls 1 [(0, .ref (A 0))] := hl
  have S : CallFix p m c cX5_erase 1 s args wsL_law RX5 := S
  refine lv_aload_n hxx hbb dX5_erase_0 rfl (lv_at hl 0 rfl) ?_
  refine zgX5_34 S hK hP 0 (by decide) zk_0 dX5_erase_1 ?_
  refine ZV.callVN S hK hP hS hB (kX3_clear l G A Y 16 zLP_text) (znX5_98) zwX5_98 zdX3_clear rfl ⟨Nat.le_trans (by decide) hfr, Nat.le_trans (by decide) hlo⟩ (by decide) (zcK3 zk_16) rfl rfl (Nat.le_of_ble_eq_true rfl) hl.1 dX5_erase_4 ⟨Nat.zero_le _, Nat.zero_le _⟩ (fun Y_2 H locs hq_3 hP hS => ?_)
  rw [hq_3] at hP
  refine lv_aload_n hxx hbb dX5_erase_7 rfl (lv_at hl 0 rfl) ?_
  refine zgX5_41 S hK hP 0 (by decide) zk_0 dX5_erase_8 ?_
  refine ZV.callVN S hK hP hS hB (kX0_forget l G A (zU Y 16 1 (nI 0))) (znX5_75) zwX5_75 zdX0_forget rfl ⟨Nat.le_trans (by decide) hfr, Nat.le_trans (by decide) hlo⟩ (by decide) (zcK4 zk_18) rfl rfl (Nat.le_of_ble_eq_true rfl) hl.1 dX5_erase_11 ⟨Nat.zero_le _, Nat.zero_le _⟩ (fun Y_5 H locs hq_6 hP hS => ?_)
  rw [hq_6] at hP
  refine lv_aload_n hxx hbb dX5_erase_14 rfl (lv_at hl 0 rfl) ?_
  refine ZV.callV S hK hP hS hB (kX5_forgetMatch l G A (zU (zU Y 16 1 (nI 0)) 18 2 (nI 0))) zwX5_78 zdX5_forgetMatch rfl ⟨Nat.le_trans (by decide) hfr, Nat.le_trans (by decide) hlo⟩ (by decide) (zcK0 zk_0) rfl rfl (Nat.le_of_ble_eq_true rfl) hl.1 dX5_erase_15 ⟨Nat.zero_le _, Nat.zero_le _⟩ (fun Y_8 H locs hq_9 hP hS => ?_)
  rw [hq_9] at hP
  exact hret _ _ _ _ _ dX5_erase_18 hP hS (rfl)

set_option maxHeartbeats 4000000 in
set_option maxRecDepth 100000 in
theorem kX5_cost (l : Launch) (G : zG) (A : Nat → Nat) (Y : zY) (i j : Int32) (kn : Nat) (nn : Nat) (kd lf rt tx : Nat → Nat) (len ad mi wr : Nat) (sz : Nat → Nat) (hXC : XC Y nn kd lf rt tx len ad mi wr sz) (hkn : kn ≤ len + 1) (hXT : XT Y (cCost kd lf rt tx ad mi wr) nn kn) : ZI l yX5_cost cX5_cost 4 (.int) 4 101 G A Y [.ref (A 0), .int i, .int j] (fun r Y' => r = cAI nn (cCost kd lf rt tx ad mi wr) len i j ∧ LK Y Y' ∧ ∃ k, k ≤ len + 1 ∧ XT Y' (cCost kd lf rt tx ad mi wr) nn k) := by
  refine ZI.enter (by decide) (Nat.le_of_ble_eq_true rfl) ?_
  intro p e s m args below meth c R Q hxx hbb S hK hfr hlo hret H ls hP hS hl
  have hB : ∀ q, zAd A q → zAd A q := fun _ h => h
  have hl : lv_has ls 4 [(0, .ref (A 0)), (1, .int i), (2, .int j)] := hl
  have S : CallFix p m c cX5_cost 4 s args wsL_law RX5 := S
  have hXC9 := hXC
  obtain ⟨hwf, hsz, hlen, had, hmi, hwr, htx, hXP, h16, hYt, h3, h4, h5⟩ := hXC
  have hnn := hwf.1
  have hCle : ∀ a, a < nn → ∀ i j, j ≤ 24 → (cCost kd lf rt tx ad mi wr) a i j ≤ 1000000 := fun a ha i j h => cCost_le hwf had hmi h a ha i
  refine lv_aload_n hxx hbb dX5_cost_0 rfl (lv_at hl 0 rfl) ?_
  refine zgX5_27 S hK hP 0 (by decide) zk_0 dX5_cost_1 ?_
  refine zgX5_68 S hK hP 11 (by decide) zk_11 (v := nI nn) (hXP.1) dX5_cost_4 ?_
  refine zif_eq (tgt := 30) S (by omega) dX5_cost_7 (by decide) (fun c_1 => ?_) (fun c_1 => ?_)
  · skip
    refine lv_iconst (v := (-1)) hxx hbb dX5_cost_30 (by decide) ?_
    exact hret _ _ _ _ _ _ dX5_cost_31 (rfl) hP hS (⟨by unfold cAI; rw [if_pos (by first | exact Or.inl ‹_› | exact Or.inr (Or.inl ‹_›) | exact Or.inr (Or.inr (Or.inl ‹_›)) | exact Or.inr (Or.inr (Or.inr (Int32.not_le.mp ‹_›))))], LK.rf, kn, hkn, hXT⟩)
  · skip
    refine lv_iload_n hxx hbb dX5_cost_10 rfl (lv_at hl 1 rfl) ?_
    refine lv_if_lt (tgt := 30) hxx hbb dX5_cost_11 (by decide) (fun c_2 => ?_) (fun c_2 => ?_)
    · skip
      refine lv_iconst (v := (-1)) hxx hbb dX5_cost_30 (by decide) ?_
      exact hret _ _ _ _ _ _ dX5_cost_31 (rfl) hP hS (⟨by unfold cAI; rw [if_pos (by first | exact Or.inl ‹_› | exact Or.inr (Or.inl ‹_›) | exact Or.inr (Or.inr (Or.inl ‹_›)) | exact Or.inr (Or.inr (Or.inr (Int32.not_le.mp ‹_›))))], LK.rf, kn, hkn, hXT⟩)
    · skip
      refine lv_iload_n hxx hbb dX5_cost_14 rfl (lv_at hl 2 rfl) ?_
      refine lv_iload_n hxx hbb dX5_cost_15 rfl (lv_at hl 1 rfl) ?_
      refine lv_icmp_lt (tgt := 30) hxx hbb dX5_cost_16 (by decide) (fun c_3 => ?_) (fun c_3 => ?_)
      · skip
        refine lv_iconst (v := (-1)) hxx hbb dX5_cost_30 (by decide) ?_
        exact hret _ _ _ _ _ _ dX5_cost_31 (rfl) hP hS (⟨by unfold cAI; rw [if_pos (by first | exact Or.inl ‹_› | exact Or.inr (Or.inl ‹_›) | exact Or.inr (Or.inr (Or.inl ‹_›)) | exact Or.inr (Or.inr (Or.inr (Int32.not_le.mp ‹_›))))], LK.rf, kn, hkn, hXT⟩)
      · skip
        refine lv_iload_n hxx hbb dX5_cost_19 rfl (lv_at hl 2 rfl) ?_
        refine lv_aload_n hxx hbb dX5_cost_20 rfl (lv_at hl 0 rfl) ?_
        refine zgX5_34 S hK hP 0 (by decide) zk_0 dX5_cost_21 ?_
        refine zgX5_93 S hK hP 16 (by decide) zk_16 (v := nI len) (h16) dX5_cost_24 ?_
        refine lv_icmp_le (tgt := 32) hxx hbb dX5_cost_27 (by decide) (fun c_4 => ?_) (fun c_4 => ?_)
        · skip
          obtain ⟨a, ha, hia⟩ := nI_of c_2
          obtain ⟨b, hbl, hjb⟩ := nI_of (i32_nlt c_2 c_3)
          subst hia; subst hjb
          have hab := cmp_lt ha hbl c_3
          have hbn := (nI_leI hbl (by omega)).mp c_4
          refine lv_aload_n hxx hbb dX5_cost_32 rfl (lv_at hl 0 rfl) ?_
          refine zgX5_41 S hK hP 0 (by decide) zk_0 dX5_cost_33 ?_
          refine lv_aload_n hxx hbb dX5_cost_36 rfl (lv_at hl 0 rfl) ?_
          refine zgX5_27 S hK hP 0 (by decide) zk_0 dX5_cost_37 ?_
          refine lv_aload_n hxx hbb dX5_cost_40 rfl (lv_at hl 0 rfl) ?_
          refine zgX5_34 S hK hP 0 (by decide) zk_0 dX5_cost_41 ?_
          refine ZV.callVN S hK hP hS hB (kX0_learn l G A Y kn nn kd lf rt tx len ad mi wr sz hXC9 hXT hkn) (znX5_101) zwX5_101 zdX0_learn rfl ⟨Nat.le_trans (by decide) hfr, Nat.le_trans (by decide) hlo⟩ (by decide) (zcK4 zk_18) rfl rfl (Nat.le_of_ble_eq_true rfl) hl.1 dX5_cost_44 ⟨Nat.zero_le _, Nat.zero_le _⟩ (fun Y_6 H locs hq_7 hP hS => ?_)
          obtain ⟨hLK, hXT9⟩ := hq_7
          refine lv_aload_n hxx hbb dX5_cost_47 rfl (lv_at hl 0 rfl) ?_
          refine zgX5_41 S hK hP 0 (by decide) zk_0 dX5_cost_48 ?_
          refine lv_aload_n hxx hbb dX5_cost_51 rfl (lv_at hl 0 rfl) ?_
          refine zgX5_27 S hK hP 0 (by decide) zk_0 dX5_cost_52 ?_
          refine lv_iload_n hxx hbb dX5_cost_55 rfl (lv_at hl 1 rfl) ?_
          refine lv_iload_n hxx hbb dX5_cost_56 rfl (lv_at hl 2 rfl) ?_
          refine ZI.callVN S hK hP hS hB (kX0_ofWhole l G A Y_6 a b (len + 1) nn (cCost kd lf rt tx ad mi wr) (by omega) hab (by omega) hXT9 ((congrFun (hLK.1 11 (by omega) (by omega)) 4).trans hXP.1)) (znX5_105) zwX5_105 zdX0_ofWhole rfl ⟨Nat.le_trans (by decide) hfr, Nat.le_trans (by decide) hlo⟩ (by decide) (zcK4 zk_18) rfl rfl (Nat.le_of_ble_eq_true rfl) hl.1 dX5_cost_57 ⟨Nat.zero_le _, Nat.zero_le _⟩ (fun r_8 Y_9 H locs hq_10 hP hS => ?_)
          obtain ⟨hr9, hY9⟩ := hq_10
          subst hr9; rw [hY9] at hP
          have hci := ci_le ((cCost kd lf rt tx ad mi wr) (nn - 1) a b)
          refine lv_istore_n (lv' := [(3, .int (nI (ci ((cCost kd lf rt tx ad mi wr) (nn - 1) a b)))), (0, .ref (A 0)), (1, .int (nI a)), (2, .int (nI b))]) hxx hbb dX5_cost_60 rfl hl (by decide) rfl (fun ls hl => ?_)
          refine lv_iload_n hxx hbb dX5_cost_61 rfl (lv_at hl 0 rfl) ?_
          refine zldc S (v := 268435456) zxX5_109 dX5_cost_62 ?_
          rw [show (268435456 : Int32) = nI 268435456 from rfl]
          refine zcmp_lt (tgt := 71) S (by omega) (by omega) dX5_cost_64 (by decide) (fun c_11 => ?_) (fun c_11 => ?_)
          · skip
            refine lv_iload_n hxx hbb dX5_cost_71 rfl (lv_at hl 0 rfl) ?_
            exact hret _ _ _ _ _ _ dX5_cost_72 (rfl) hP hS (⟨(cAI_ci hab hbn hlen (by omega)).2 (by omega), hLK, len + 1, Nat.le_refl _, hXT9⟩)
          · skip
            refine lv_iconst (v := (-1)) hxx hbb dX5_cost_67 (by decide) ?_
            refine lv_goto (tgt := 72) hxx hbb dX5_cost_68 (by decide) ?_
            exact hret _ _ _ _ _ _ dX5_cost_72 (rfl) hP hS (⟨(cAI_ci hab hbn hlen (by omega)).1 (by omega), hLK, len + 1, Nat.le_refl _, hXT9⟩)
        · skip
          refine lv_iconst (v := (-1)) hxx hbb dX5_cost_30 (by decide) ?_
          exact hret _ _ _ _ _ _ dX5_cost_31 (rfl) hP hS (⟨by unfold cAI; rw [if_pos (by first | exact Or.inl ‹_› | exact Or.inr (Or.inl ‹_›) | exact Or.inr (Or.inr (Or.inl ‹_›)) | exact Or.inr (Or.inr (Or.inr (Int32.not_le.mp ‹_›))))], LK.rf, kn, hkn, hXT⟩)

set_option maxHeartbeats 4000000 in
set_option maxRecDepth 100000 in
theorem kX5_find (l : Launch) (G : zG) (A : Nat → Nat) (Y : zY) (be bd kn : Nat) (nn : Nat) (kd lf rt tx : Nat → Nat) (len ad mi wr : Nat) (sz : Nat → Nat) (hXC : XC Y nn kd lf rt tx len ad mi wr sz) (hkn : kn ≤ len + 1) (hXT : XT Y (cCost kd lf rt tx ad mi wr) nn kn) (hbe : be ≤ 1) (hbd : bd ≤ 999) (h7 : Y 0 7 = nI bd) : ZI l yX5_find cX5_find 6 (.int) 4 101 G A Y [.ref (A 0), .int (nI be)] (fun r Y' => ∃ f t, Fnd be ((cCost kd lf rt tx ad mi wr) (nn - 1)) bd len nn (len + 1) 0 f t ∧ r = fRes ((cCost kd lf rt tx ad mi wr) (nn - 1)) f t ∧ Y' 0 8 = f ∧ Y' 0 9 = t ∧ XKf Y Y' ∧ ∃ k, k ≤ len + 1 ∧ XT Y' (cCost kd lf rt tx ad mi wr) nn k) := by
  refine ZI.enter (by decide) (Nat.le_of_ble_eq_true rfl) ?_
  intro p e s m args below meth c R Q hxx hbb S hK hfr hlo hret H ls hP hS hl
  have hB : ∀ q, zAd A q → zAd A q := fun _ h => h
  have hl : lv_has ls 6 [(0, .ref (A 0)), (1, .int (nI be))] := hl
  have S : CallFix p m c cX5_find 6 s args wsL_law RX5 := S
  have hXC9 := hXC
  obtain ⟨hwf, hsz, hlen, had, hmi, hwr, htx, hXP, h16, hYt, h3, h4, h5⟩ := hXC
  have hnn := hwf.1
  have hCle : ∀ a, a < nn → ∀ i j, j ≤ 24 → (cCost kd lf rt tx ad mi wr) a i j ≤ 1000000 := fun a ha i j h => cCost_le hwf had hmi h a ha i
  refine lv_aload_n hxx hbb dX5_find_0 rfl (lv_at hl 0 rfl) ?_
  refine ZV.callV S hK hP hS hB (kX5_forgetMatch l G A Y) zwX5_78 zdX5_forgetMatch rfl ⟨Nat.le_trans (by decide) hfr, Nat.le_trans (by decide) hlo⟩ (by decide) (zcK0 zk_0) rfl rfl (Nat.le_of_ble_eq_true rfl) hl.1 dX5_find_1 ⟨Nat.zero_le _, Nat.zero_le _⟩ (fun Y_2 H locs hq_3 hP hS => ?_)
  rw [hq_3] at hP
  refine lv_aload_n hxx hbb dX5_find_4 rfl (lv_at hl 0 rfl) ?_
  refine zgX5_27 S hK hP 0 (by decide) zk_0 dX5_find_5 ?_
  refine zgX5_68 S hK hP 11 (by decide) zk_11 (v := nI nn) ((zU_np (by decide)).trans ((zU_np (by decide)).trans (hXP.1))) dX5_find_8 ?_
  refine zif_ne (tgt := 16) S (by omega) dX5_find_11 (by decide) (fun c_4 => ?_) (fun c_4 => ?_)
  · skip
    refine lv_aload_n hxx hbb dX5_find_16 rfl (lv_at hl 0 rfl) ?_
    refine zgX5_41 S hK hP 0 (by decide) zk_0 dX5_find_17 ?_
    refine lv_aload_n hxx hbb dX5_find_20 rfl (lv_at hl 0 rfl) ?_
    refine zgX5_27 S hK hP 0 (by decide) zk_0 dX5_find_21 ?_
    refine lv_aload_n hxx hbb dX5_find_24 rfl (lv_at hl 0 rfl) ?_
    refine zgX5_34 S hK hP 0 (by decide) zk_0 dX5_find_25 ?_
    refine ZV.callVN S hK hP hS hB (kX0_learn l G A (zU (zU Y 0 8 (-1)) 0 9 (-1)) kn nn kd lf rt tx len ad mi wr sz (hXC9.xkf XKf.rf.p8.p9) ((hXT.p0 (by omega)).p0 (by omega)) hkn) (znX5_101) zwX5_101 zdX0_learn rfl ⟨Nat.le_trans (by decide) hfr, Nat.le_trans (by decide) hlo⟩ (by decide) (zcK4 zk_18) rfl rfl (Nat.le_of_ble_eq_true rfl) hl.1 dX5_find_28 ⟨Nat.zero_le _, Nat.zero_le _⟩ (fun Y_6 H locs hq_7 hP hS => ?_)
    obtain ⟨hLK, hXT9⟩ := hq_7
    have hKK := (XKf.rf (Y := Y)).p8.p9.lk hLK
    have h8 := (congrFun (hLK.1 0 (by omega) (by omega)) 8).trans ((zU_nj (by decide)).trans zU_eq)
    have h9 := (congrFun (hLK.1 0 (by omega) (by omega)) 9).trans zU_eq
    refine lv_aload_n hxx hbb dX5_find_31 rfl (lv_at hl 0 rfl) ?_
    refine zgX5_52 S hK hP 0 (by decide) zk_0 (v := nI bd) ((hKK.2.2 7 (by decide) (by decide)).trans h7) dX5_find_32 ?_
    refine lv_iconst (v := nI 1) hxx hbb dX5_find_35 (by decide) ?_
    refine zaddN S dX5_find_36 ?_
    refine lv_istore_n (lv' := [(2, .int (nI (bd + 1))), (0, .ref (A 0)), (1, .int (nI be))]) hxx hbb dX5_find_37 rfl hl (by decide) rfl (fun ls hl => ?_)
    refine lv_iconst (v := nI 0) hxx hbb dX5_find_38 (by decide) ?_
    refine lv_istore_n (lv' := [(3, .int (nI 0)), (2, .int (nI (bd + 1))), (0, .ref (A 0)), (1, .int (nI be))]) hxx hbb dX5_find_39 rfl hl (by decide) rfl (fun ls hl => ?_)
    have L_40 : ∀ (N_40 : Nat) (i u : Nat) (f t : Int32) (Y1 : zY) (hi : i ≤ len + 1) (hKK : XKf Y Y1) (hXT9 : XT Y1 (cCost kd lf rt tx ad mi wr) nn (len + 1)) (h8 : Y1 0 8 = f) (h9 : Y1 0 9 = t) (hF : FR be ((cCost kd lf rt tx ad mi wr) (nn - 1)) bd len i (len + 1) f t u) (hb0 : be = 0 → f = -1), len + 1 - i < N_40 → ∀ (H : Heap) (locs : List Loc) (ls : Array Slot), va_P G.1 vwCl (zW G A Y1) H → va_S (zAd A) s.heap H locs → lv_has ls 6 [(0, .ref (A 0)), (1, .int (nI be)), (2, .int (nI u)), (3, .int (nI i))] → W p l e R s m args below meth c H locs 0 0 Q (F0 m 40 ls []) := by
      intro N_40
      induction N_40 with
      | zero => intro i u f t Y1 hi hKK hXT9 h8 h9 hF hb0 hm; exact absurd hm (Nat.not_lt_zero _)
      | succ N_40 ih_40 =>
        intro i u f t Y1 hi hKK hXT9 h8 h9 hF hb0 hm_40 H locs ls hP hS hl
        have hul := hF.le
        refine lv_iload_n hxx hbb dX5_find_40 rfl (lv_at hl 3 rfl) ?_
        refine lv_aload_n hxx hbb dX5_find_41 rfl (lv_at hl 0 rfl) ?_
        refine zgX5_34 S hK hP 0 (by decide) zk_0 dX5_find_42 ?_
        refine zgX5_93 S hK hP 16 (by decide) zk_16 (v := nI len) ((congrFun (hKK.1 16 (by omega) (by omega) (by omega)) 1).trans h16) dX5_find_45 ?_
        refine zcmp_gt (tgt := 129) S (by omega) (by omega) dX5_find_48 (by decide) (fun c_8 => ?_) (fun c_8 => ?_)
        · skip
          rcases id hF with ⟨hf1, hf2, hf3, hf4⟩ | ⟨fa, fb, hf1, hf2, hf3, hf4, hf5, hf6, hf7⟩
          · skip
            have h8x := h8.trans hf1
            refine lv_aload_n hxx hbb dX5_find_129 rfl (lv_at hl 0 rfl) ?_
            refine zgX5_55 S hK hP 0 (by decide) zk_0 (v := (-1)) (h8x) dX5_find_130 ?_
            refine lv_iconst (v := (-1)) hxx hbb dX5_find_133 (by decide) ?_
            refine lv_icmp_ne (tgt := 141) hxx hbb dX5_find_134 (by decide) (fun c_9 => ?_) (fun c_9 => ?_)
            · skip
              exact absurd rfl ‹¬ (-1 : Int32) = -1›
            · skip
              refine lv_iconst (v := (-1)) hxx hbb dX5_find_137 (by decide) ?_
              refine lv_goto (tgt := 142) hxx hbb dX5_find_138 (by decide) ?_
              exact hret _ _ _ _ _ _ dX5_find_142 (rfl) hP hS (⟨f, t, hF.fin (by omega) (Or.inl (by omega)), by unfold fRes; rw [hf1]; rfl, h8, h9, hKK, len + 1, Nat.le_refl _, hXT9⟩)
          · skip
            have h8x := h8.trans hf1
            have hfa : fa < 2 ^ 31 := by unfold Rg at hf4; omega
            refine lv_aload_n hxx hbb dX5_find_129 rfl (lv_at hl 0 rfl) ?_
            refine zgX5_55 S hK hP 0 (by decide) zk_0 (v := nI fa) (h8x) dX5_find_130 ?_
            refine lv_iconst (v := (-1)) hxx hbb dX5_find_133 (by decide) ?_
            refine lv_icmp_ne (tgt := 141) hxx hbb dX5_find_134 (by decide) (fun c_10 => ?_) (fun c_10 => ?_)
            · skip
              refine lv_iload_n hxx hbb dX5_find_141 rfl (lv_at hl 2 rfl) ?_
              exact hret _ _ _ _ _ _ dX5_find_142 (rfl) hP hS (⟨f, t, hF.fin (by omega) (Or.inl (by omega)), by unfold fRes; rw [hf1, hf2, if_neg (nI_pos hfa), nI_clamp hfa, nI_clamp (by unfold Rg at hf4; omega), ← hf3], h8, h9, hKK, len + 1, Nat.le_refl _, hXT9⟩)
            · skip
              exact absurd ‹nI fa = -1› (nI_nem1 hfa)
        · skip
          refine lv_aload_n hxx hbb dX5_find_51 rfl (lv_at hl 0 rfl) ?_
          refine zgX5_34 S hK hP 0 (by decide) zk_0 dX5_find_52 ?_
          refine zgX5_93 S hK hP 16 (by decide) zk_16 (v := nI len) ((congrFun (hKK.1 16 (by omega) (by omega) (by omega)) 1).trans h16) dX5_find_55 ?_
          refine lv_istore (lv' := [(4, .int (nI len)), (0, .ref (A 0)), (1, .int (nI be)), (2, .int (nI u)), (3, .int (nI i))]) hxx hbb dX5_find_58 hl (by decide) rfl (fun ls hl => ?_)
          have L_60 : ∀ (N_60 : Nat) (q u : Nat) (f t tj : Int32) (Y1 : zY) (hq : q ≤ len + 1) (hiq : i ≤ q) (htj : tj = nI q - nI 1) (hKK : XKf Y Y1) (hXT9 : XT Y1 (cCost kd lf rt tx ad mi wr) nn (len + 1)) (h8 : Y1 0 8 = f) (h9 : Y1 0 9 = t) (hF : FR be ((cCost kd lf rt tx ad mi wr) (nn - 1)) bd len i q f t u), q < N_60 → ∀ (H : Heap) (locs : List Loc) (ls : Array Slot), va_P G.1 vwCl (zW G A Y1) H → va_S (zAd A) s.heap H locs → lv_has ls 6 [(0, .ref (A 0)), (1, .int (nI be)), (2, .int (nI u)), (3, .int (nI i)), (4, .int tj)] → W p l e R s m args below meth c H locs 0 0 Q (F0 m 60 ls []) := by
            intro N_60
            induction N_60 with
            | zero => intro q u f t tj Y1 hq hiq htj hKK hXT9 h8 h9 hF hm; exact absurd hm (Nat.not_lt_zero _)
            | succ N_60 ih_60 =>
              intro q u f t tj Y1 hq hiq htj hKK hXT9 h8 h9 hF hm_60 H locs ls hP hS hl
              have hul := hF.le
              refine lv_iload hxx hbb dX5_find_60 (lv_at hl 4 rfl) ?_
              refine lv_iload_n hxx hbb dX5_find_62 rfl (lv_at hl 3 rfl) ?_
              refine lv_icmp_lt (tgt := 108) hxx hbb dX5_find_63 (by decide) (fun c_11 => ?_) (fun c_11 => ?_)
              · skip
                have hqi := (zlt_dec (q := q) (i := i) (by omega) (by omega)).mp (by rw [← htj]; exact c_11)
                refine lv_iload_n hxx hbb dX5_find_108 rfl (lv_at hl 1 rfl) ?_
                refine zif_ne (tgt := 123) S (by omega) dX5_find_109 (by decide) (fun c_12 => ?_) (fun c_12 => ?_)
                · skip
                  refine lv_iinc (v := nI (i + 1)) (lv' := [(3, .int (nI (i + 1))), (0, .ref (A 0)), (1, .int (nI be)), (2, .int (nI u)), (4, .int tj)]) hxx hbb dX5_find_123 hl (k := 3) rfl (zinc1 _) (by decide) rfl (fun ls hl => ?_)
                  refine lv_goto (tgt := 40) hxx hbb dX5_find_126 (by decide) ?_
                  exact ih_40 (i + 1) u f t Y1 (by omega) hKK hXT9 h8 h9 (hF.row hqi (Or.inl (by omega)) (by omega)) (by first | (intro z; omega) | (intro _; exact hf1)) (by omega) _ _ _ hP hS (lv_sub hl [1, 2, 3, 0] rfl)
                · skip
                  rcases id hF with ⟨hf1, hf2, hf3, hf4⟩ | ⟨fa, fb, hf1, hf2, hf3, hf4, hf5, hf6, hf7⟩
                  · skip
                    have h8x := h8.trans hf1
                    refine lv_aload_n hxx hbb dX5_find_112 rfl (lv_at hl 0 rfl) ?_
                    refine zgX5_55 S hK hP 0 (by decide) zk_0 (v := (-1)) (h8x) dX5_find_113 ?_
                    refine lv_iconst (v := (-1)) hxx hbb dX5_find_116 (by decide) ?_
                    refine lv_icmp_eq (tgt := 123) hxx hbb dX5_find_117 (by decide) (fun c_13 => ?_) (fun c_13 => ?_)
                    · skip
                      refine lv_iinc (v := nI (i + 1)) (lv' := [(3, .int (nI (i + 1))), (0, .ref (A 0)), (1, .int (nI be)), (2, .int (nI u)), (4, .int tj)]) hxx hbb dX5_find_123 hl (k := 3) rfl (zinc1 _) (by decide) rfl (fun ls hl => ?_)
                      refine lv_goto (tgt := 40) hxx hbb dX5_find_126 (by decide) ?_
                      exact ih_40 (i + 1) u f t Y1 (by omega) hKK hXT9 h8 h9 (hF.row hqi (Or.inr hf1) (by omega)) (by first | (intro z; omega) | (intro _; exact hf1)) (by omega) _ _ _ hP hS (lv_sub hl [1, 2, 3, 0] rfl)
                    · skip
                      exact absurd rfl ‹¬ (-1 : Int32) = -1›
                  · skip
                    have h8x := h8.trans hf1
                    have hfa : fa < 2 ^ 31 := by unfold Rg at hf4; omega
                    refine lv_aload_n hxx hbb dX5_find_112 rfl (lv_at hl 0 rfl) ?_
                    refine zgX5_55 S hK hP 0 (by decide) zk_0 (v := nI fa) (h8x) dX5_find_113 ?_
                    refine lv_iconst (v := (-1)) hxx hbb dX5_find_116 (by decide) ?_
                    refine lv_icmp_eq (tgt := 123) hxx hbb dX5_find_117 (by decide) (fun c_14 => ?_) (fun c_14 => ?_)
                    · skip
                      exact absurd ‹nI fa = -1› (nI_nem1 hfa)
                    · skip
                      refine lv_goto (tgt := 129) hxx hbb dX5_find_120 (by decide) ?_
                      refine lv_aload_n hxx hbb dX5_find_129 rfl (lv_at hl 0 rfl) ?_
                      refine zgX5_55 S hK hP 0 (by decide) zk_0 (v := nI fa) (h8x) dX5_find_130 ?_
                      refine lv_iconst (v := (-1)) hxx hbb dX5_find_133 (by decide) ?_
                      refine lv_icmp_ne (tgt := 141) hxx hbb dX5_find_134 (by decide) (fun c_15 => ?_) (fun c_15 => ?_)
                      · skip
                        refine lv_iload_n hxx hbb dX5_find_141 rfl (lv_at hl 2 rfl) ?_
                        exact hret _ _ _ _ _ _ dX5_find_142 (rfl) hP hS (⟨f, t, hF.fin (by omega) (Or.inr ⟨by omega, hqi, by rw [hf1]; exact nI_nem1 hfa⟩), by unfold fRes; rw [hf1, hf2, if_neg (nI_pos hfa), nI_clamp hfa, nI_clamp (by unfold Rg at hf4; omega), ← hf3], h8, h9, hKK, len + 1, Nat.le_refl _, hXT9⟩)
                      · skip
                        exact absurd ‹nI fa = -1› (nI_nem1 hfa)
              · skip
                have hqi : ¬ q ≤ i := fun z => c_11 (by rw [htj]; exact (zlt_dec (by omega) (by omega)).mpr z)
                have hq1 : 1 ≤ q := by omega
                have ht9 := htj.trans (pk_sub hq1)
                subst ht9
                refine lv_aload_n hxx hbb dX5_find_66 rfl (lv_at hl 0 rfl) ?_
                refine zgX5_41 S hK hP 0 (by decide) zk_0 dX5_find_67 ?_
                refine lv_aload_n hxx hbb dX5_find_70 rfl (lv_at hl 0 rfl) ?_
                refine zgX5_27 S hK hP 0 (by decide) zk_0 dX5_find_71 ?_
                refine lv_iload_n hxx hbb dX5_find_74 rfl (lv_at hl 3 rfl) ?_
                refine lv_iload hxx hbb dX5_find_75 (lv_at hl 4 rfl) ?_
                refine ZI.callVN S hK hP hS hB (kX0_ofWhole l G A Y1 i (q - 1) (len + 1) nn (cCost kd lf rt tx ad mi wr) (by omega) (by omega) (by omega) hXT9 ((congrFun (hKK.1 11 (by omega) (by omega) (by omega)) 4).trans hXP.1)) (znX5_105) zwX5_105 zdX0_ofWhole rfl ⟨Nat.le_trans (by decide) hfr, Nat.le_trans (by decide) hlo⟩ (by decide) (zcK4 zk_18) rfl rfl (Nat.le_of_ble_eq_true rfl) hl.1 dX5_find_77 ⟨Nat.zero_le _, Nat.zero_le _⟩ (fun r_16 Y_17 H locs hq_18 hP hS => ?_)
                obtain ⟨hr9, hY9⟩ := hq_18
                subst hr9; rw [hY9] at hP
                have hci := ci_le ((cCost kd lf rt tx ad mi wr) (nn - 1) i (q - 1))
                have hul := hF.le
                refine lv_istore (lv' := [(5, .int (nI (ci ((cCost kd lf rt tx ad mi wr) (nn - 1) i (q - 1))))), (0, .ref (A 0)), (1, .int (nI be)), (2, .int (nI u)), (3, .int (nI i)), (4, .int (nI (q - 1)))]) hxx hbb dX5_find_80 hl (by decide) rfl (fun ls hl => ?_)
                refine lv_iload hxx hbb dX5_find_82 (lv_at hl 0 rfl) ?_
                refine lv_iload_n hxx hbb dX5_find_84 rfl (lv_at hl 3 rfl) ?_
                refine zcmp_ge (tgt := 102) S (by omega) (by omega) dX5_find_85 (by decide) (fun c_19 => ?_) (fun c_19 => ?_)
                · skip
                  refine lv_iinc (v := nI (q - 1) - nI 1) (lv' := [(4, .int (nI (q - 1) - nI 1)), (5, .int (nI (ci ((cCost kd lf rt tx ad mi wr) (nn - 1) i (q - 1))))), (0, .ref (A 0)), (1, .int (nI be)), (2, .int (nI u)), (3, .int (nI i))]) hxx hbb dX5_find_102 hl (k := 5) rfl (zdecR _) (by decide) rfl (fun ls hl => ?_)
                  refine lv_goto (tgt := 60) hxx hbb dX5_find_105 (by decide) ?_
                  exact ih_60 (q - 1) u f t (nI (q - 1) - nI 1) Y1 (by omega) (by omega) rfl hKK hXT9 h8 h9 (hF.skip hq1 (by have : ci (((cCost kd lf rt tx ad mi wr) (nn - 1)) i (q - 1)) ≤ ((cCost kd lf rt tx ad mi wr) (nn - 1)) i (q - 1) ∨ 1000000 ≤ ((cCost kd lf rt tx ad mi wr) (nn - 1)) i (q - 1) := (by unfold ci; split <;> omega); omega)) (by omega) _ _ _ hP hS (lv_sub hl [2, 3, 4, 5, 0] rfl)
                · skip
                  refine lv_iload hxx hbb dX5_find_88 (lv_at hl 0 rfl) ?_
                  refine lv_istore_n (lv' := [(2, .int (nI (ci ((cCost kd lf rt tx ad mi wr) (nn - 1) i (q - 1))))), (5, .int (nI (ci ((cCost kd lf rt tx ad mi wr) (nn - 1) i (q - 1))))), (0, .ref (A 0)), (1, .int (nI be)), (3, .int (nI i)), (4, .int (nI (q - 1)))]) hxx hbb dX5_find_90 rfl hl (by decide) rfl (fun ls hl => ?_)
                  refine lv_aload_n hxx hbb dX5_find_91 rfl (lv_at hl 2 rfl) ?_
                  refine lv_iload_n hxx hbb dX5_find_92 rfl (lv_at hl 4 rfl) ?_
                  refine zpX5_55 S hK hP hS hB 0 (by decide) zk_0 dX5_find_93 (fun H locs hP hS => ?_)
                  refine lv_aload_n hxx hbb dX5_find_96 rfl (lv_at hl 2 rfl) ?_
                  refine lv_iload hxx hbb dX5_find_97 (lv_at hl 5 rfl) ?_
                  refine zpX5_58 S hK hP hS hB 0 (by decide) zk_0 dX5_find_99 (fun H locs hP hS => ?_)
                  refine lv_iinc (v := nI (q - 1) - nI 1) (lv' := [(4, .int (nI (q - 1) - nI 1)), (2, .int (nI (ci ((cCost kd lf rt tx ad mi wr) (nn - 1) i (q - 1))))), (5, .int (nI (ci ((cCost kd lf rt tx ad mi wr) (nn - 1) i (q - 1))))), (0, .ref (A 0)), (1, .int (nI be)), (3, .int (nI i))]) hxx hbb dX5_find_102 hl (k := 5) rfl (zdecR _) (by decide) rfl (fun ls hl => ?_)
                  refine lv_goto (tgt := 60) hxx hbb dX5_find_105 (by decide) ?_
                  exact ih_60 (q - 1) (ci ((cCost kd lf rt tx ad mi wr) (nn - 1) i (q - 1))) (nI i) (nI (q - 1)) (nI (q - 1) - nI 1) (zU (zU Y1 0 8 (nI i)) 0 9 (nI (q - 1))) (by omega) (by omega) rfl hKK.p8.p9 ((hXT9.p0 (by omega)).p0 (by omega)) ((zU_nj (by decide)).trans zU_eq) zU_eq (hF.take hbd hq1 (by omega) (by omega) (by omega)) (by omega) _ _ _ hP hS (lv_sub hl [3, 4, 1, 5, 0] rfl)
          exact L_60 (_ + 1) (len + 1) u f t (nI len) Y1 (by omega) (by omega) (by rw [pk_sub (by omega), Nat.add_sub_cancel]) hKK hXT9 h8 h9 hF (Nat.lt_succ_self _) _ _ _ hP hS (lv_sub hl [1, 2, 3, 4, 0] rfl)
    exact L_40 (_ + 1) 0 (bd + 1) (-1) (-1) Y_6 (by omega) hKK hXT9 h8 h9 FR.nil (fun _ => rfl) (Nat.lt_succ_self _) _ _ _ hP hS (lv_sub hl [2, 3, 1, 0] rfl)
  · skip
    refine lv_iconst (v := (-1)) hxx hbb dX5_find_14 (by decide) ?_
    exact hret _ _ _ _ _ _ dX5_find_15 (rfl) hP hS (⟨-1, -1, Or.inl ⟨rfl, rfl, fun a b _ _ _ z => z.1 (by omega)⟩, by unfold fRes; rfl, (zU_nj (by decide)).trans zU_eq, zU_eq, XKf.rf.p8.p9, kn, hkn, (hXT.p0 (by omega)).p0 (by omega)⟩)

set_option maxHeartbeats 4000000 in
set_option maxRecDepth 100000 in
theorem kX5_ends (l : Launch) (G : zG) (A : Nat → Nat) (Y : zY) (bd kn : Nat) (nn : Nat) (kd lf rt tx : Nat → Nat) (len ad mi wr : Nat) (sz : Nat → Nat) (hXC : XC Y nn kd lf rt tx len ad mi wr sz) (hkn : kn ≤ len + 1) (hXT : XT Y (cCost kd lf rt tx ad mi wr) nn kn) (hbd : bd ≤ 999) (h7 : Y 0 7 = nI bd) : ZI l yX5_ends cX5_ends 4 (.int) 4 101 G A Y [.ref (A 0)] (fun r Y' => r = eA (eM ((cCost kd lf rt tx ad mi wr) (nn - 1)) bd nn) (len + 1) ∧ LK Y Y' ∧ ∃ k, k ≤ len + 1 ∧ XT Y' (cCost kd lf rt tx ad mi wr) nn k) := by
  refine ZI.enter (by decide) (Nat.le_of_ble_eq_true rfl) ?_
  intro p e s m args below meth c R Q hxx hbb S hK hfr hlo hret H ls hP hS hl
  have hB : ∀ q, zAd A q → zAd A q := fun _ h => h
  have hl : lv_has ls 4 [(0, .ref (A 0))] := hl
  have S : CallFix p m c cX5_ends 4 s args wsL_law RX5 := S
  have hXC9 := hXC
  obtain ⟨hwf, hsz, hlen, had, hmi, hwr, htx, hXP, h16, hYt, h3, h4, h5⟩ := hXC
  have hnn := hwf.1
  have hCle : ∀ a, a < nn → ∀ i j, j ≤ 24 → (cCost kd lf rt tx ad mi wr) a i j ≤ 1000000 := fun a ha i j h => cCost_le hwf had hmi h a ha i
  refine lv_aload_n hxx hbb dX5_ends_0 rfl (lv_at hl 0 rfl) ?_
  refine zgX5_27 S hK hP 0 (by decide) zk_0 dX5_ends_1 ?_
  refine zgX5_68 S hK hP 11 (by decide) zk_11 (v := nI nn) (hXP.1) dX5_ends_4 ?_
  refine zif_ne (tgt := 12) S (by omega) dX5_ends_7 (by decide) (fun c_1 => ?_) (fun c_1 => ?_)
  · skip
    refine lv_aload_n hxx hbb dX5_ends_12 rfl (lv_at hl 0 rfl) ?_
    refine zgX5_41 S hK hP 0 (by decide) zk_0 dX5_ends_13 ?_
    refine lv_aload_n hxx hbb dX5_ends_16 rfl (lv_at hl 0 rfl) ?_
    refine zgX5_27 S hK hP 0 (by decide) zk_0 dX5_ends_17 ?_
    refine lv_aload_n hxx hbb dX5_ends_20 rfl (lv_at hl 0 rfl) ?_
    refine zgX5_34 S hK hP 0 (by decide) zk_0 dX5_ends_21 ?_
    refine ZV.callVN S hK hP hS hB (kX0_learn l G A Y kn nn kd lf rt tx len ad mi wr sz hXC9 hXT hkn) (znX5_101) zwX5_101 zdX0_learn rfl ⟨Nat.le_trans (by decide) hfr, Nat.le_trans (by decide) hlo⟩ (by decide) (zcK4 zk_18) rfl rfl (Nat.le_of_ble_eq_true rfl) hl.1 dX5_ends_24 ⟨Nat.zero_le _, Nat.zero_le _⟩ (fun Y_3 H locs hq_4 hP hS => ?_)
    obtain ⟨hLK, hXT9⟩ := hq_4
    have hKK := (XKf.rf (Y := Y)).lk hLK
    refine lv_iconst (v := nI 0) hxx hbb dX5_ends_27 (by decide) ?_
    refine lv_istore_n (lv' := [(1, .int (nI 0)), (0, .ref (A 0))]) hxx hbb dX5_ends_28 rfl hl (by decide) rfl (fun ls hl => ?_)
    refine lv_iconst (v := nI 0) hxx hbb dX5_ends_29 (by decide) ?_
    refine lv_istore_n (lv' := [(2, .int (nI 0)), (1, .int (nI 0)), (0, .ref (A 0))]) hxx hbb dX5_ends_30 rfl hl (by decide) rfl (fun ls hl => ?_)
    have L_31 : ∀ (N_31 : Nat) (j : Nat) (x : Int32) (hj : j ≤ len + 1) (hx : x = eA (eM ((cCost kd lf rt tx ad mi wr) (nn - 1)) bd nn) j), len + 1 - j < N_31 → ∀ (H : Heap) (locs : List Loc) (ls : Array Slot), va_P G.1 vwCl (zW G A Y_3) H → va_S (zAd A) s.heap H locs → lv_has ls 4 [(0, .ref (A 0)), (1, .int x), (2, .int (nI j))] → W p l e R s m args below meth c H locs 0 0 Q (F0 m 31 ls []) := by
      intro N_31
      induction N_31 with
      | zero => intro j x hj hx hm; exact absurd hm (Nat.not_lt_zero _)
      | succ N_31 ih_31 =>
        intro j x hj hx hm_31 H locs ls hP hS hl
        refine lv_iload_n hxx hbb dX5_ends_31 rfl (lv_at hl 2 rfl) ?_
        refine lv_aload_n hxx hbb dX5_ends_32 rfl (lv_at hl 0 rfl) ?_
        refine zgX5_34 S hK hP 0 (by decide) zk_0 dX5_ends_33 ?_
        refine zgX5_93 S hK hP 16 (by decide) zk_16 (v := nI len) ((congrFun (hKK.1 16 (by omega) (by omega) (by omega)) 1).trans h16) dX5_ends_36 ?_
        refine zcmp_gt (tgt := 87) S (by omega) (by omega) dX5_ends_39 (by decide) (fun c_5 => ?_) (fun c_5 => ?_)
        · skip
          refine lv_iload_n hxx hbb dX5_ends_87 rfl (lv_at hl 1 rfl) ?_
          exact hret _ _ _ _ _ _ dX5_ends_88 (rfl) hP hS (⟨by rw [hx, show j = len + 1 by omega], hLK, len + 1, Nat.le_refl _, hXT9⟩)
        · skip
          refine lv_iconst (v := nI 0) hxx hbb dX5_ends_42 (by decide) ?_
          refine lv_istore_n (lv' := [(3, .int (nI 0)), (0, .ref (A 0)), (1, .int x), (2, .int (nI j))]) hxx hbb dX5_ends_43 rfl hl (by decide) rfl (fun ls hl => ?_)
          have L_44 : ∀ (N_44 : Nat) (i : Nat) (x : Int32) (hi : i ≤ j + 1) (hx : x = eR (eM ((cCost kd lf rt tx ad mi wr) (nn - 1)) bd nn) j (eA (eM ((cCost kd lf rt tx ad mi wr) (nn - 1)) bd nn) j) i), j + 1 - i < N_44 → ∀ (H : Heap) (locs : List Loc) (ls : Array Slot), va_P G.1 vwCl (zW G A Y_3) H → va_S (zAd A) s.heap H locs → lv_has ls 4 [(0, .ref (A 0)), (1, .int x), (2, .int (nI j)), (3, .int (nI i))] → W p l e R s m args below meth c H locs 0 0 Q (F0 m 44 ls []) := by
            intro N_44
            induction N_44 with
            | zero => intro i x hi hx hm; exact absurd hm (Nat.not_lt_zero _)
            | succ N_44 ih_44 =>
              intro i x hi hx hm_44 H locs ls hP hS hl
              refine lv_iload_n hxx hbb dX5_ends_44 rfl (lv_at hl 3 rfl) ?_
              refine lv_iload_n hxx hbb dX5_ends_45 rfl (lv_at hl 2 rfl) ?_
              refine zcmp_gt (tgt := 81) S (by omega) (by omega) dX5_ends_46 (by decide) (fun c_6 => ?_) (fun c_6 => ?_)
              · skip
                refine lv_iinc (v := nI (j + 1)) (lv' := [(2, .int (nI (j + 1))), (0, .ref (A 0)), (1, .int x), (3, .int (nI i))]) hxx hbb dX5_ends_81 hl (k := 2) rfl (zinc1 _) (by decide) rfl (fun ls hl => ?_)
                refine lv_goto (tgt := 31) hxx hbb dX5_ends_84 (by decide) ?_
                exact ih_31 (j + 1) x (by omega) (by rw [hx, show i = j + 1 by omega]; rfl) (by omega) _ _ _ hP hS (lv_sub hl [1, 2, 0] rfl)
              · skip
                refine lv_aload_n hxx hbb dX5_ends_49 rfl (lv_at hl 0 rfl) ?_
                refine zgX5_41 S hK hP 0 (by decide) zk_0 dX5_ends_50 ?_
                refine lv_aload_n hxx hbb dX5_ends_53 rfl (lv_at hl 0 rfl) ?_
                refine zgX5_27 S hK hP 0 (by decide) zk_0 dX5_ends_54 ?_
                refine lv_iload_n hxx hbb dX5_ends_57 rfl (lv_at hl 3 rfl) ?_
                refine lv_iload_n hxx hbb dX5_ends_58 rfl (lv_at hl 2 rfl) ?_
                refine ZI.callVN S hK hP hS hB (kX0_ofWhole l G A Y_3 i j (len + 1) nn (cCost kd lf rt tx ad mi wr) (by omega) (by omega) (by omega) hXT9 ((congrFun (hKK.1 11 (by omega) (by omega) (by omega)) 4).trans hXP.1)) (znX5_105) zwX5_105 zdX0_ofWhole rfl ⟨Nat.le_trans (by decide) hfr, Nat.le_trans (by decide) hlo⟩ (by decide) (zcK4 zk_18) rfl rfl (Nat.le_of_ble_eq_true rfl) hl.1 dX5_ends_59 ⟨Nat.zero_le _, Nat.zero_le _⟩ (fun r_7 Y_8 H locs hq_9 hP hS => ?_)
                obtain ⟨hr9, hY9⟩ := hq_9
                subst hr9; rw [hY9] at hP
                have hci := ci_le ((cCost kd lf rt tx ad mi wr) (nn - 1) i j)
                skip
                refine lv_aload_n hxx hbb dX5_ends_62 rfl (lv_at hl 0 rfl) ?_
                refine zgX5_52 S hK hP 0 (by decide) zk_0 (v := nI bd) ((hKK.2.2 7 (by decide) (by decide)).trans h7) dX5_ends_63 ?_
                refine zcmp_gt (tgt := 75) S (by omega) (by omega) dX5_ends_66 (by decide) (fun c_10 => ?_) (fun c_10 => ?_)
                · skip
                  refine lv_iinc (v := nI (i + 1)) (lv' := [(3, .int (nI (i + 1))), (0, .ref (A 0)), (1, .int x), (2, .int (nI j))]) hxx hbb dX5_ends_75 hl (k := 3) rfl (zinc1 _) (by decide) rfl (fun ls hl => ?_)
                  refine lv_goto (tgt := 44) hxx hbb dX5_ends_78 (by decide) ?_
                  exact ih_44 (i + 1) x (by omega) (by simp only [eR, ← hx]; rw [if_neg (by rw [eM, if_neg (fun z => by have z2 := (ci_bd hbd).mpr z.2; omega)]; decide)]) (by omega) _ _ _ hP hS (lv_sub hl [1, 2, 3, 0] rfl)
                · skip
                  refine lv_iload_n hxx hbb dX5_ends_69 rfl (lv_at hl 1 rfl) ?_
                  refine lv_iconst (v := nI 1) hxx hbb dX5_ends_70 (by decide) ?_
                  refine lv_iload_n hxx hbb dX5_ends_71 rfl (lv_at hl 2 rfl) ?_
                  refine lv_ishl hxx hbb dX5_ends_72 ?_
                  refine lv_ior hxx hbb dX5_ends_73 ?_
                  refine lv_istore_n (lv' := [(1, .int (x ||| ((nI 1) <<< ((nI j) &&& 31)))), (0, .ref (A 0)), (2, .int (nI j)), (3, .int (nI i))]) hxx hbb dX5_ends_74 rfl hl (by decide) rfl (fun ls hl => ?_)
                  refine lv_iinc (v := nI (i + 1)) (lv' := [(3, .int (nI (i + 1))), (1, .int (x ||| ((nI 1) <<< ((nI j) &&& 31)))), (0, .ref (A 0)), (2, .int (nI j))]) hxx hbb dX5_ends_75 hl (k := 3) rfl (zinc1 _) (by decide) rfl (fun ls hl => ?_)
                  refine lv_goto (tgt := 44) hxx hbb dX5_ends_78 (by decide) ?_
                  exact ih_44 (i + 1) (x ||| ((nI 1) <<< ((nI j) &&& 31))) (by omega) (by simp only [eR, ← hx]; rw [if_pos (by rw [eM, if_pos ⟨by omega, (ci_bd hbd).mp (by omega)⟩])]) (by omega) _ _ _ hP hS (lv_sub hl [2, 1, 3, 0] rfl)
          exact L_44 (_ + 1) 0 x (by omega) hx (Nat.lt_succ_self _) _ _ _ hP hS (lv_sub hl [1, 2, 3, 0] rfl)
    exact L_31 (_ + 1) 0 (nI 0) (by omega) rfl (Nat.lt_succ_self _) _ _ _ hP hS (lv_sub hl [2, 1, 0] rfl)
  · skip
    refine lv_iconst (v := nI 0) hxx hbb dX5_ends_10 (by decide) ?_
    exact hret _ _ _ _ _ _ dX5_ends_11 (rfl) hP hS (⟨by rw [show nn = 0 by omega, eA_zero], LK.rf, kn, hkn, hXT⟩)

set_option maxHeartbeats 4000000 in
set_option maxRecDepth 100000 in
theorem kX5_add (l : Launch) (G : zG) (A : Nat → Nat) (Y : zY) (nw : Nat) (sz : Nat → Nat) (lt : Nat → Nat → Nat) (tx : Nat → Nat) (len : Nat) (hXD : XD Y nw sz lt tx len) : ZI l yX5_add cX5_add 1 (.int) 4 89 G A Y [.ref (A 0)] (fun r Y' => (r = -1 ∧ Y' = Y ∧ (len = 0 ∨ 12 < len ∨ nw = 20 ∨ ∃ w, w < nw ∧ sz w = len ∧ ∀ i, i < sz w → lt w i = tx i)) ∨ (r = nI nw ∧ 0 < len ∧ len ≤ 12 ∧ nw < 20 ∧ ¬ (∃ w, w < nw ∧ sz w = len ∧ ∀ i, i < sz w → lt w i = tx i) ∧ ∃ Y1, Y' = zU Y1 45 1 (nI (nw + 1)) ∧ LT Y1 (62 + 2 * nw) len tx ∧ KL Y Y1 (62 + 2 * nw))) := by
  refine ZI.enter (by decide) (Nat.le_of_ble_eq_true rfl) ?_
  intro p e s m args below meth c R Q hxx hbb S hK hfr hlo hret H ls hP hS hl
  have hB : ∀ q, zAd A q → zAd A q := fun _ h => h
  have hl : lv_has ls 1 [(0, .ref (A 0))] := hl
  have S : CallFix p m c cX5_add 1 s args wsL_law RX5 := S
  refine lv_aload_n hxx hbb dX5_add_0 rfl (lv_at hl 0 rfl) ?_
  refine zgX5_48 S hK hP 0 (by decide) zk_0 dX5_add_1 ?_
  refine lv_aload_n hxx hbb dX5_add_4 rfl (lv_at hl 0 rfl) ?_
  refine zgX5_34 S hK hP 0 (by decide) zk_0 dX5_add_5 ?_
  refine ZI.callVN S hK hP hS hB (kX1_keep l G A Y nw sz lt tx len hXD) (znX5_110) zwX5_110 zdX1_keep rfl ⟨Nat.le_trans (by decide) hfr, Nat.le_trans (by decide) hlo⟩ (by decide) (zcK5 zk_45) rfl rfl (Nat.le_of_ble_eq_true rfl) hl.1 dX5_add_8 ⟨Nat.zero_le _, Nat.zero_le _⟩ (fun r_1 Y_2 H locs hq_3 hP hS => ?_)
  have hfin := hq_3
  exact hret _ _ _ _ _ _ dX5_add_11 (rfl) hP hS (hfin)

set_option maxHeartbeats 4000000 in
set_option maxRecDepth 100000 in
theorem kX5_distance (l : Launch) (G : zG) (A : Nat → Nat) (Y : zY) (wd : Int32) (ex : Nat) (nw : Nat) (sz : Nat → Nat) (lt : Nat → Nat → Nat) (tx : Nat → Nat) (len : Nat) (hXD : XD Y nw sz lt tx len) (hex : ex ≤ 1) : ZI l yX5_distance cX5_distance 3 (.int) 4 97 G A Y [.ref (A 0), .int wd, .int (nI ex)] (fun r Y' => r = dA nw sz lt tx len ex wd ∧ KXd Y Y' ∧ Y' 47 = Y 47) := by
  refine ZI.enter (by decide) (Nat.le_of_ble_eq_true rfl) ?_
  intro p e s m args below meth c R Q hxx hbb S hK hfr hlo hret H ls hP hS hl
  have hB : ∀ q, zAd A q → zAd A q := fun _ h => h
  have hl : lv_has ls 3 [(0, .ref (A 0)), (1, .int wd), (2, .int (nI ex))] := hl
  have S : CallFix p m c cX5_distance 3 s args wsL_law RX5 := S
  refine lv_aload_n hxx hbb dX5_distance_0 rfl (lv_at hl 0 rfl) ?_
  refine zgX5_48 S hK hP 0 (by decide) zk_0 dX5_distance_1 ?_
  refine lv_iload_n hxx hbb dX5_distance_4 rfl (lv_at hl 1 rfl) ?_
  refine lv_aload_n hxx hbb dX5_distance_5 rfl (lv_at hl 0 rfl) ?_
  refine zgX5_34 S hK hP 0 (by decide) zk_0 dX5_distance_6 ?_
  refine lv_iload_n hxx hbb dX5_distance_9 rfl (lv_at hl 2 rfl) ?_
  refine ZI.callVN S hK hP hS hB (kX1_distanceOf l G A Y wd ex nw sz lt tx len hXD hex) (znX5_115) zwX5_115 zdX1_distanceOf rfl ⟨Nat.le_trans (by decide) hfr, Nat.le_trans (by decide) hlo⟩ (by decide) (zcK5 zk_45) rfl rfl (Nat.le_of_ble_eq_true rfl) hl.1 dX5_distance_10 ⟨Nat.zero_le _, Nat.zero_le _⟩ (fun r_1 Y_2 H locs hq_3 hP hS => ?_)
  have hfin := hq_3
  exact hret _ _ _ _ _ _ dX5_distance_13 (rfl) hP hS (hfin)

set_option maxHeartbeats 4000000 in
set_option maxRecDepth 100000 in
theorem kX5_near (l : Launch) (G : zG) (A : Nat → Nat) (Y : zY) (wd : Int32) (ex : Nat) (nw : Nat) (sz : Nat → Nat) (lt : Nat → Nat → Nat) (tx : Nat → Nat) (len : Nat) (hXD : XD Y nw sz lt tx len) (hex : ex ≤ 1) : ZI l yX5_near cX5_near 3 (.int) 5 122 G A Y [.ref (A 0), .int wd, .int (nI ex)] (fun r Y' => r = nI (cN (nrN (fun w => dD (lt w) tx ex (sz w) len) wd) nw) ∧ KXd Y Y') := by
  refine ZI.enter (by decide) (Nat.le_of_ble_eq_true rfl) ?_
  intro p e s m args below meth c R Q hxx hbb S hK hfr hlo hret H ls hP hS hl
  have hB : ∀ q, zAd A q → zAd A q := fun _ h => h
  have hl : lv_has ls 3 [(0, .ref (A 0)), (1, .int wd), (2, .int (nI ex))] := hl
  have S : CallFix p m c cX5_near 3 s args wsL_law RX5 := S
  refine lv_aload_n hxx hbb dX5_near_0 rfl (lv_at hl 0 rfl) ?_
  refine zgX5_48 S hK hP 0 (by decide) zk_0 dX5_near_1 ?_
  refine lv_iload_n hxx hbb dX5_near_4 rfl (lv_at hl 1 rfl) ?_
  refine lv_aload_n hxx hbb dX5_near_5 rfl (lv_at hl 0 rfl) ?_
  refine zgX5_34 S hK hP 0 (by decide) zk_0 dX5_near_6 ?_
  refine lv_iload_n hxx hbb dX5_near_9 rfl (lv_at hl 2 rfl) ?_
  refine ZI.callVN S hK hP hS hB (kX1_countWithin l G A Y wd ex nw sz lt tx len hXD hex) (znX5_119) zwX5_119 zdX1_countWithin rfl ⟨Nat.le_trans (by decide) hfr, Nat.le_trans (by decide) hlo⟩ (by decide) (zcK5 zk_45) rfl rfl (Nat.le_of_ble_eq_true rfl) hl.1 dX5_near_10 ⟨Nat.zero_le _, Nat.zero_le _⟩ (fun r_1 Y_2 H locs hq_3 hP hS => ?_)
  have hfin := hq_3
  exact hret _ _ _ _ _ _ dX5_near_13 (rfl) hP hS (hfin)

set_option maxHeartbeats 4000000 in
set_option maxRecDepth 100000 in
theorem kX5_rank (l : Launch) (G : zG) (A : Nat → Nat) (Y : zY) (wd : Int32) (ex : Nat) (nw : Nat) (sz : Nat → Nat) (lt : Nat → Nat → Nat) (tx : Nat → Nat) (len : Nat) (hXD : XD Y nw sz lt tx len) (hex : ex ≤ 1) : ZI l yX5_rank cX5_rank 3 (.int) 5 121 G A Y [.ref (A 0), .int wd, .int (nI ex)] (fun r Y' => rkP (fun x => cN (rkN sz lt (fun w => dD (lt w) tx ex (sz w) len) x) nw) nw wd r ∧ KXd Y Y') := by
  refine ZI.enter (by decide) (Nat.le_of_ble_eq_true rfl) ?_
  intro p e s m args below meth c R Q hxx hbb S hK hfr hlo hret H ls hP hS hl
  have hB : ∀ q, zAd A q → zAd A q := fun _ h => h
  have hl : lv_has ls 3 [(0, .ref (A 0)), (1, .int wd), (2, .int (nI ex))] := hl
  have S : CallFix p m c cX5_rank 3 s args wsL_law RX5 := S
  refine lv_aload_n hxx hbb dX5_rank_0 rfl (lv_at hl 0 rfl) ?_
  refine zgX5_48 S hK hP 0 (by decide) zk_0 dX5_rank_1 ?_
  refine lv_iload_n hxx hbb dX5_rank_4 rfl (lv_at hl 1 rfl) ?_
  refine lv_aload_n hxx hbb dX5_rank_5 rfl (lv_at hl 0 rfl) ?_
  refine zgX5_34 S hK hP 0 (by decide) zk_0 dX5_rank_6 ?_
  refine lv_iload_n hxx hbb dX5_rank_9 rfl (lv_at hl 2 rfl) ?_
  refine ZI.callVN S hK hP hS hB (kX1_wordAtRank l G A Y wd ex nw sz lt tx len hXD hex) (znX5_122) zwX5_122 zdX1_wordAtRank rfl ⟨Nat.le_trans (by decide) hfr, Nat.le_trans (by decide) hlo⟩ (by decide) (zcK5 zk_45) rfl rfl (Nat.le_of_ble_eq_true rfl) hl.1 dX5_rank_10 ⟨Nat.zero_le _, Nat.zero_le _⟩ (fun r_1 Y_2 H locs hq_3 hP hS => ?_)
  have hfin := hq_3
  exact hret _ _ _ _ _ _ dX5_rank_13 (rfl) hP hS (hfin)
