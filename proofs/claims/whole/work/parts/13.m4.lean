def cAI (nn : Nat) (C : Nat → Nat → Nat → Nat) (len : Nat) (i j : Int32) : Int32 := if nn = 0 ∨ i < 0 ∨ j < i ∨ nI len < j then -1 else if 1000000 ≤ C (nn - 1) i.toNatClampNeg j.toNatClampNeg then -1 else nI (C (nn - 1) i.toNatClampNeg j.toNatClampNeg)
theorem cAI_nat {nn : Nat} {C : Nat → Nat → Nat → Nat} {len i j : Nat} (h1 : i ≤ j) (h2 : j ≤ len) (h3 : len ≤ 24) : cAI nn C len (nI i) (nI j) = if nn = 0 then -1 else if 1000000 ≤ C (nn - 1) i j then -1 else nI (C (nn - 1) i j) := by
  unfold cAI
  rw [nI_clamp (by omega), nI_clamp (by omega)]
  by_cases h : nn = 0
  · rw [if_pos (Or.inl h), if_pos h]
  · have h9 : ¬ (nn = 0 ∨ nI i < 0 ∨ nI j < nI i ∨ nI len < nI j) := by
      rintro (h4 | h4 | h4 | h4)
      · exact h h4
      · exact nI_pos (by omega) h4
      · have := (nI_ltI (by omega) (by omega)).mp h4; omega
      · have := (nI_ltI (by omega) (by omega)).mp h4; omega
    rw [if_neg h9, if_neg h]
theorem cAI_fin {nn : Nat} {C : Nat → Nat → Nat → Nat} {len i j : Nat} (h1 : i ≤ j) (h2 : j ≤ len) (h3 : len ≤ 24) (h4 : nn ≠ 0) (h5 : C (nn - 1) i j ≤ 999) : cAI nn C len (nI i) (nI j) = nI (C (nn - 1) i j) := by
  rw [cAI_nat h1 h2 h3, if_neg h4, if_neg (by omega)]
theorem i32_nlt {i j : Int32} (h : ¬ i < 0) (h2 : ¬ j < i) : ¬ j < 0 := fun h3 => h2 (Int32.lt_of_lt_of_le h3 (Int32.not_lt.mp h))
theorem cmp_lt {a b : Nat} (ha : a < 2 ^ 31) (hb : b < 2 ^ 31) (h : ¬ nI b < nI a) : a ≤ b := Nat.not_lt.mp (fun z => h ((nI_ltI hb ha).mpr z))
theorem mat_yes {nn v bd : Nat} {r : Int32} (hr : r = if nn = 0 then -1 else if 1000000 ≤ v then -1 else nI v) (hv : nn ≠ 0 → v ≤ 1000000) (hb : bd ≤ 999) (h1 : ¬ r < 0) (h2 : ¬ nI bd < r) : nn ≠ 0 ∧ v ≤ bd := by
  by_cases h : nn = 0
  · rw [if_pos h] at hr; subst hr; exact absurd (by decide) h1
  · rw [if_neg h] at hr
    by_cases h4 : 1000000 ≤ v
    · rw [if_pos h4] at hr; subst hr; exact absurd (by decide) h1
    · rw [if_neg h4] at hr; subst hr
      have hv := hv h
      exact ⟨h, cmp_lt (by omega) (by omega) h2⟩
theorem mat_no {nn v bd : Nat} {r : Int32} (hr : r = if nn = 0 then -1 else if 1000000 ≤ v then -1 else nI v) (hb : bd ≤ 999) (h : r < 0 ∨ nI bd < r) : ¬ (nn ≠ 0 ∧ v ≤ bd) := by
  rintro ⟨h1, h2⟩
  rw [if_neg h1, if_neg (by omega)] at hr
  subst hr
  rcases h with h | h
  · exact nI_pos (by omega) h
  · have := (nI_ltI (by omega) (by omega)).mp h; omega
/-- [i, j) is to be taken rather than [a, b) -/
def bf (be : Nat) (K : Nat → Nat → Nat) (i j a b : Nat) : Prop := (be ≠ 0 ∧ (K i j < K a b ∨ K i j = K a b ∧ (i < a ∨ i = a ∧ b < j))) ∨ (be = 0 ∧ (i < a ∨ i = a ∧ (K i j < K a b ∨ K i j = K a b ∧ b < j)))
/-- f, t is the match among the pieces that come before (i, j), or there is none -/
def Fnd (be : Nat) (K : Nat → Nat → Nat) (bd len nn i j : Nat) (f t : Int32) : Prop := (f = -1 ∧ t = -1 ∧ ∀ a b, a ≤ b → b ≤ len → (a < i ∨ a = i ∧ b < j) → ¬ (nn ≠ 0 ∧ K a b ≤ bd)) ∨
  (∃ a b, f = nI a ∧ t = nI b ∧ a ≤ b ∧ b ≤ len ∧ nn ≠ 0 ∧ K a b ≤ bd ∧ ∀ a' b', a' ≤ b' → b' ≤ len → (a' < i ∨ a' = i ∧ b' < j) → (nn ≠ 0 ∧ K a' b' ≤ bd) → ¬ bf be K a' b' a b)
theorem Fnd.skip {be : Nat} {K : Nat → Nat → Nat} {bd len nn i j : Nat} {f t : Int32} (h : Fnd be K bd len nn i j f t) (hn : ¬ (nn ≠ 0 ∧ K i j ≤ bd)) : Fnd be K bd len nn i (j + 1) f t := by
  rcases h with ⟨h1, h2, h3⟩ | ⟨a, b, h1, h2, h3, h4, h5, h6, h7⟩
  · refine Or.inl ⟨h1, h2, fun a b q1 q2 q3 => ?_⟩
    by_cases e : a = i ∧ b = j
    · obtain ⟨rfl, rfl⟩ := e; exact hn
    · exact h3 a b q1 q2 (by omega)
  · refine Or.inr ⟨a, b, h1, h2, h3, h4, h5, h6, fun a' b' q1 q2 q3 q4 => ?_⟩
    by_cases e : a' = i ∧ b' = j
    · obtain ⟨rfl, rfl⟩ := e; exact absurd q4 hn
    · exact h7 a' b' q1 q2 (by omega) q4
theorem Fnd.keep {be : Nat} {K : Nat → Nat → Nat} {bd len nn i j a b : Nat} (h : Fnd be K bd len nn i j (nI a) (nI b)) (hl : len < 2 ^ 31) (ha : a < 2 ^ 31) (hb : b < 2 ^ 31) (hn : ¬ bf be K i j a b) : Fnd be K bd len nn i (j + 1) (nI a) (nI b) := by
  rcases h with ⟨h1, h2, h3⟩ | ⟨a2, b2, h1, h2, h3, h4, h5, h6, h7⟩
  · exact absurd (h1 ▸ (by decide : (-1 : Int32) < 0) : nI a < 0) (nI_pos ha)
  · have e1 := (nI_eq ha (by omega)).mp h1
    have e2 := (nI_eq hb (by omega)).mp h2
    subst e1; subst e2
    refine Or.inr ⟨a, b, rfl, rfl, h3, h4, h5, h6, fun a' b' q1 q2 q3 q4 => ?_⟩
    by_cases e : a' = i ∧ b' = j
    · obtain ⟨rfl, rfl⟩ := e; exact hn
    · exact h7 a' b' q1 q2 (by omega) q4
theorem bf_irr {be : Nat} {K : Nat → Nat → Nat} {a b : Nat} : ¬ bf be K a b a b := by unfold bf; omega
theorem bf_trans {be : Nat} {K : Nat → Nat → Nat} {a b c d e f : Nat} (h1 : bf be K a b c d) (h2 : bf be K c d e f) : bf be K a b e f := by unfold bf at *; omega
theorem bf_tot {be : Nat} {K : Nat → Nat → Nat} {a b c d : Nat} (h1 : ¬ bf be K a b c d) (h2 : ¬ bf be K c d a b) : a = c ∧ b = d := by
  unfold bf at *; omega
theorem Fnd.take {be : Nat} {K : Nat → Nat → Nat} {bd len nn i j : Nat} {f t : Int32} (h : Fnd be K bd len nn i j f t) (hij : i ≤ j) (hj : j ≤ len) (hm : nn ≠ 0 ∧ K i j ≤ bd) (hb : ∀ a b, f = nI a → t = nI b → a ≤ b → b ≤ len → bf be K i j a b) : Fnd be K bd len nn i (j + 1) (nI i) (nI j) := by
  refine Or.inr ⟨i, j, rfl, rfl, hij, hj, hm.1, hm.2, fun a' b' q1 q2 q3 q4 => ?_⟩
  by_cases e : a' = i ∧ b' = j
  · obtain ⟨rfl, rfl⟩ := e; exact bf_irr
  · rcases h with ⟨h1, h2, h3⟩ | ⟨a, b, h1, h2, h3, h4, h5, h6, h7⟩
    · exact absurd q4 (h3 a' b' q1 q2 (by omega))
    · exact fun z => h7 a' b' q1 q2 (by omega) q4 (bf_trans z (hb a b h1 h2 h3 h4))
theorem Fnd.next {be : Nat} {K : Nat → Nat → Nat} {bd len nn i j : Nat} {f t : Int32} (h : Fnd be K bd len nn i j f t) (hj : len < j) : Fnd be K bd len nn (i + 1) 0 f t := by
  rcases h with ⟨h1, h2, h3⟩ | ⟨a, b, h1, h2, h3, h4, h5, h6, h7⟩
  · exact Or.inl ⟨h1, h2, fun a b q1 q2 q3 => h3 a b q1 q2 (by omega)⟩
  · exact Or.inr ⟨a, b, h1, h2, h3, h4, h5, h6, fun a' b' q1 q2 q3 q4 => h7 a' b' q1 q2 (by omega) q4⟩
theorem Fnd.fst {be : Nat} {K : Nat → Nat → Nat} {bd len nn i : Nat} {f t : Int32} (h : Fnd be K bd len nn i 0 f t) : Fnd be K bd len nn i i f t := by
  rcases h with ⟨h1, h2, h3⟩ | ⟨a, b, h1, h2, h3, h4, h5, h6, h7⟩
  · exact Or.inl ⟨h1, h2, fun a b q1 q2 q3 => h3 a b q1 q2 (by omega)⟩
  · exact Or.inr ⟨a, b, h1, h2, h3, h4, h5, h6, fun a' b' q1 q2 q3 q4 => h7 a' b' q1 q2 (by omega) q4⟩
theorem Fnd.nil {be : Nat} {K : Nat → Nat → Nat} {bd len nn : Nat} : Fnd be K bd len nn 0 0 (-1) (-1) := Or.inl ⟨rfl, rfl, fun a b q1 q2 q3 => absurd q3 (by omega)⟩
def fRes (K : Nat → Nat → Nat) (f t : Int32) : Int32 := if f < 0 then -1 else nI (K f.toNatClampNeg t.toNatClampNeg)
/-- but for the table of costs and what find found nothing has changed -/
def MKf (Y Z : zY) : Prop := (∀ q, q ≠ 113 → q ≠ 102 → Z q = Y q) ∧ ∀ k, k ≠ 21 → k ≠ 23 → k ≠ 24 → Z 102 k = Y 102 k
theorem MKf.rf {Y : zY} : MKf Y Y := ⟨fun _ _ _ => rfl, fun _ _ _ _ => rfl⟩
theorem MKf.mk {X Y Z : zY} (h : MKf X Y) (h2 : MK Y Z) : MKf X Z := ⟨fun q a b => (h2.1 q a b).trans (h.1 q a b), fun k a b c => (h2.2 k a).trans (h.2 k a b c)⟩
theorem MKf.p23 {Y Z : zY} {v : Int32} (h : MKf Y Z) : MKf Y (zU Z 102 23 v) := ⟨fun q a b => (zU_row b).trans (h.1 q a b), fun k a b c => (zU_nj b).trans (h.2 k a b c)⟩
theorem MKf.p24 {Y Z : zY} {v : Int32} (h : MKf Y Z) : MKf Y (zU Z 102 24 v) := ⟨fun q a b => (zU_row b).trans (h.1 q a b), fun k a b c => (zU_nj c).trans (h.2 k a b c)⟩
theorem MC.keepf {Y Z : zY} {nn : Nat} {kd lf rt tx : Nat → Nat} {len ad mi wr : Nat} (h : MC Y nn kd lf rt tx len ad mi wr) (k : MKf Y Z) : MC Z nn kd lf rt tx len ad mi wr := by
  obtain ⟨a1, a2, a3, a4, a5, a6, a7, a8, a9, b1, b2, b3, b4⟩ := h
  refine ⟨a1, a2, a3, a4, a5, a6, ?_, ?_, ?_, ?_, ?_, ?_, ?_⟩
  · rw [k.2 2 (by decide) (by decide) (by decide)]; exact a7
  · rw [k.2 19 (by decide) (by decide) (by decide)]; exact a8
  · rw [k.2 15 (by decide) (by decide) (by decide)]; exact a9
  · rw [k.2 16 (by decide) (by decide) (by decide)]; exact b1
  · rw [k.2 17 (by decide) (by decide) (by decide)]; exact b2
  · rw [k.1 112 (by decide) (by decide)]; exact b3
  · rw [k.1 104 (by decide) (by decide), k.1 105 (by decide) (by decide), k.1 106 (by decide) (by decide)]; exact b4
theorem MT.put {Y : zY} {C : Nat → Nat → Nat → Nat} {len nn k : Nat} {v : Int32} (h : MT Y C len nn) (hk : k ≠ 21) : MT (zU Y 102 k v) C len nn := by
  rcases h with h | ⟨h, h2⟩
  · exact Or.inl ((zU_nj hk.symm).trans h)
  · exact Or.inr ⟨(zU_nj hk.symm).trans h, fun a ha i j p q => (zU_np (by decide)).trans (h2 a ha i j p q)⟩
/-- the bits of the ends -/
def eM (K : Nat → Nat → Nat) (bd nn i j : Nat) : Nat := if nn ≠ 0 ∧ K i j ≤ bd then 1 else 0
def eR (m : Nat → Nat → Nat) (j : Nat) (x : Int32) : Nat → Int32
  | 0 => x
  | q + 1 => if m q j = 1 then eR m j x q ||| (nI 1 <<< (nI j &&& 31)) else eR m j x q
def eA (m : Nat → Nat → Nat) : Nat → Int32
  | 0 => nI 0
  | j + 1 => eR m j (eA m j) (j + 1)
set_option maxHeartbeats 4000000 in
set_option maxRecDepth 100000 in
theorem kX6_cost (l : Launch) (G : zG) (A : Nat → Nat) (Y : zY) (i j : Int32) (nn : Nat) (kd lf rt tx : Nat → Nat) (len ad mi wr : Nat) (C : Nat → Nat → Nat → Nat) (hMC : MC Y nn kd lf rt tx len ad mi wr) (hC : C = cCost kd lf rt tx ad mi wr) (hMT : MT Y C len nn) : ZI l yX6_cost cX6_cost 4 (.int) 4 99 G A Y [.ref (A 102), .int i, .int j] (fun r Y' => r = cAI nn C len i j ∧ MK Y Y' ∧ MT Y' C len nn) := by
  refine ZI.enter (by decide) (Nat.le_of_ble_eq_true rfl) ?_
  intro p e s m args below meth c R Q hxx hbb S hK hfr hlo hret H ls hP hS hl
  have hB : ∀ q, zAd A q → zAd A q := fun _ h => h
  have hl : lv_has ls 4 [(0, .ref (A 102)), (1, .int i), (2, .int j)] := hl
  have S : CallFix p m c cX6_cost 4 s args wsL_law RX6 := S
  have hMC9 := hMC
  obtain ⟨hwf, hlen, had, hmi, hwr, htx, hY2, hY19, hY15, hY16, hY17, hYt, hYn⟩ := hMC
  have hnn := hwf.1
  have hCle : ∀ a, a < nn → ∀ i j, j ≤ 24 → C a i j ≤ 1000000 := fun a ha i j h => by rw [hC]; exact cCost_le hwf had hmi h a ha i
  have hKK : MK Y Y := MK.rf
  refine lv_aload_n hxx hbb dX6_cost_0 rfl (lv_at hl 0 rfl) ?_
  refine zgX6_122 S hK hP 102 (by decide) zk_102 (v := nI nn) (hY2) dX6_cost_1 ?_
  refine zif_eq (tgt := 24) S (by omega) dX6_cost_4 (by decide) (fun c_1 => ?_) (fun c_1 => ?_)
  · skip
    refine lv_iconst (v := (-1)) hxx hbb dX6_cost_24 (by decide) ?_
    exact hret _ _ _ _ _ _ dX6_cost_25 (rfl) hP hS (⟨by unfold cAI; rw [if_pos (by first | exact Or.inl ‹_› | exact Or.inr (Or.inl ‹_›) | exact Or.inr (Or.inr (Or.inl ‹_›)) | exact Or.inr (Or.inr (Or.inr (Int32.not_le.mp ‹_›))))], MK.rf, hMT⟩)
  · skip
    refine lv_iload_n hxx hbb dX6_cost_7 rfl (lv_at hl 1 rfl) ?_
    refine lv_if_lt (tgt := 24) hxx hbb dX6_cost_8 (by decide) (fun c_2 => ?_) (fun c_2 => ?_)
    · skip
      refine lv_iconst (v := (-1)) hxx hbb dX6_cost_24 (by decide) ?_
      exact hret _ _ _ _ _ _ dX6_cost_25 (rfl) hP hS (⟨by unfold cAI; rw [if_pos (by first | exact Or.inl ‹_› | exact Or.inr (Or.inl ‹_›) | exact Or.inr (Or.inr (Or.inl ‹_›)) | exact Or.inr (Or.inr (Or.inr (Int32.not_le.mp ‹_›))))], MK.rf, hMT⟩)
    · skip
      refine lv_iload_n hxx hbb dX6_cost_11 rfl (lv_at hl 2 rfl) ?_
      refine lv_iload_n hxx hbb dX6_cost_12 rfl (lv_at hl 1 rfl) ?_
      refine lv_icmp_lt (tgt := 24) hxx hbb dX6_cost_13 (by decide) (fun c_3 => ?_) (fun c_3 => ?_)
      · skip
        refine lv_iconst (v := (-1)) hxx hbb dX6_cost_24 (by decide) ?_
        exact hret _ _ _ _ _ _ dX6_cost_25 (rfl) hP hS (⟨by unfold cAI; rw [if_pos (by first | exact Or.inl ‹_› | exact Or.inr (Or.inl ‹_›) | exact Or.inr (Or.inr (Or.inl ‹_›)) | exact Or.inr (Or.inr (Or.inr (Int32.not_le.mp ‹_›))))], MK.rf, hMT⟩)
      · skip
        refine lv_iload_n hxx hbb dX6_cost_16 rfl (lv_at hl 2 rfl) ?_
        refine lv_aload_n hxx hbb dX6_cost_17 rfl (lv_at hl 0 rfl) ?_
        refine zgX6_135 S hK hP 102 (by decide) zk_102 (v := nI len) (hY19) dX6_cost_18 ?_
        refine lv_icmp_le (tgt := 26) hxx hbb dX6_cost_21 (by decide) (fun c_4 => ?_) (fun c_4 => ?_)
        · skip
          obtain ⟨a, ha, hia⟩ := nI_of c_2
          obtain ⟨b, hbl, hjb⟩ := nI_of (i32_nlt c_2 c_3)
          subst hia; subst hjb
          have hab := cmp_lt ha hbl c_3
          have hbn := (nI_leI hbl (by omega)).mp c_4
          refine lv_aload_n hxx hbb dX6_cost_26 rfl (lv_at hl 0 rfl) ?_
          refine ZV.callV S hK hP hS hB (kX6_work l G A Y nn kd lf rt tx len ad mi wr C (hMC9.keep hKK) hC hMT) zwX6_159 zdX6_work rfl ⟨Nat.le_trans (by decide) hfr, Nat.le_trans (by decide) hlo⟩ (by decide) (zcK6 zk_102) rfl rfl (Nat.le_of_ble_eq_true rfl) hl.1 dX6_cost_27 ⟨Nat.zero_le _, Nat.zero_le _⟩ (fun Y_6 H locs hq_7 hP hS => ?_)
          obtain ⟨hk9, h21, hTB⟩ := hq_7
          have hKK := hKK.trans hk9
          refine lv_aload_n hxx hbb dX6_cost_30 rfl (lv_at hl 0 rfl) ?_
          refine lv_aload_n hxx hbb dX6_cost_31 rfl (lv_at hl 0 rfl) ?_
          refine zgX6_122 S hK hP 102 (by decide) zk_102 (v := nI nn) ((hKK.2 _ (by decide)).trans hY2) dX6_cost_32 ?_
          refine lv_iconst (v := nI 1) hxx hbb dX6_cost_35 (by decide) ?_
          refine zsubN S (by omega) dX6_cost_36 ?_
          refine lv_iload_n hxx hbb dX6_cost_37 rfl (lv_at hl 1 rfl) ?_
          refine lv_iload_n hxx hbb dX6_cost_38 rfl (lv_at hl 2 rfl) ?_
          refine ZI.callV S hK hP hS hB (kX6_costOf l G A Y_6 (nn - 1) a b (by omega) (by omega) (by omega)) zwX6_139 zdX6_costOf rfl ⟨Nat.le_trans (by decide) hfr, Nat.le_trans (by decide) hlo⟩ (by decide) (zcK6 zk_102) rfl rfl (Nat.le_of_ble_eq_true rfl) hl.1 dX6_cost_39 ⟨Nat.zero_le _, Nat.zero_le _⟩ (fun r_8 Y_9 H locs hq_10 hP hS => ?_)
          obtain ⟨hr9, hY9⟩ := hq_10
          have hr9 := hr9.trans (hTB _ (by omega) _ _ hab hbn)
          subst hr9; rw [hY9] at hP
          refine lv_istore_n (lv' := [(3, .int (nI (C (nn - 1) a b))), (0, .ref (A 102)), (1, .int (nI a)), (2, .int (nI b))]) hxx hbb dX6_cost_42 rfl hl (by decide) rfl (fun ls hl => ?_)
          have hc9 := hCle (nn - 1) (by omega) a b (by omega)
          refine lv_iload_n hxx hbb dX6_cost_43 rfl (lv_at hl 0 rfl) ?_
          refine zldc S (v := 1000000) zxX6_138 dX6_cost_44 ?_
          rw [show (1000000 : Int32) = nI 1000000 from rfl]
          refine zcmp_lt (tgt := 53) S (by omega) (by omega) dX6_cost_46 (by decide) (fun c_11 => ?_) (fun c_11 => ?_)
          · skip
            refine lv_iload_n hxx hbb dX6_cost_53 rfl (lv_at hl 0 rfl) ?_
            exact hret _ _ _ _ _ _ dX6_cost_54 (rfl) hP hS (⟨by rw [cAI_nat hab hbn hlen, if_neg (by omega), if_neg (by omega)], hKK, Or.inr ⟨h21, hTB⟩⟩)
          · skip
            refine lv_iconst (v := (-1)) hxx hbb dX6_cost_49 (by decide) ?_
            refine lv_goto (tgt := 54) hxx hbb dX6_cost_50 (by decide) ?_
            exact hret _ _ _ _ _ _ dX6_cost_54 (rfl) hP hS (⟨by rw [cAI_nat hab hbn hlen, if_neg (by omega), if_pos (by omega)], hKK, Or.inr ⟨h21, hTB⟩⟩)
        · skip
          refine lv_iconst (v := (-1)) hxx hbb dX6_cost_24 (by decide) ?_
          exact hret _ _ _ _ _ _ dX6_cost_25 (rfl) hP hS (⟨by unfold cAI; rw [if_pos (by first | exact Or.inl ‹_› | exact Or.inr (Or.inl ‹_›) | exact Or.inr (Or.inr (Or.inl ‹_›)) | exact Or.inr (Or.inr (Or.inr (Int32.not_le.mp ‹_›))))], MK.rf, hMT⟩)

set_option maxHeartbeats 4000000 in
set_option maxRecDepth 100000 in
theorem kX6_matches (l : Launch) (G : zG) (A : Nat → Nat) (Y : zY) (i j bd : Nat) (nn : Nat) (kd lf rt tx : Nat → Nat) (len ad mi wr : Nat) (C : Nat → Nat → Nat → Nat) (hMC : MC Y nn kd lf rt tx len ad mi wr) (hC : C = cCost kd lf rt tx ad mi wr) (hMT : MT Y C len nn) (hbd : bd ≤ 999) (h18 : Y 102 18 = nI bd) (hij : i ≤ j) (hj : j ≤ len) : ZI l yX6_matches cX6_matches 4 (.boolean) 5 122 G A Y [.ref (A 102), .int (nI i), .int (nI j)] (fun r Y' => (((nn ≠ 0 ∧ C (nn - 1) i j ≤ bd) ∧ r = nI 1) ∨ (¬ (nn ≠ 0 ∧ C (nn - 1) i j ≤ bd) ∧ r = nI 0)) ∧ MK Y Y' ∧ MT Y' C len nn) := by
  refine ZI.enter (by decide) (Nat.le_of_ble_eq_true rfl) ?_
  intro p e s m args below meth c R Q hxx hbb S hK hfr hlo hret H ls hP hS hl
  have hB : ∀ q, zAd A q → zAd A q := fun _ h => h
  have hl : lv_has ls 4 [(0, .ref (A 102)), (1, .int (nI i)), (2, .int (nI j))] := hl
  have S : CallFix p m c cX6_matches 4 s args wsL_law RX6 := S
  have hMC9 := hMC
  obtain ⟨hwf, hlen, had, hmi, hwr, htx, hY2, hY19, hY15, hY16, hY17, hYt, hYn⟩ := hMC
  have hnn := hwf.1
  have hCle : ∀ a, a < nn → ∀ i j, j ≤ 24 → C a i j ≤ 1000000 := fun a ha i j h => by rw [hC]; exact cCost_le hwf had hmi h a ha i
  have hKK : MK Y Y := MK.rf
  refine lv_aload_n hxx hbb dX6_matches_0 rfl (lv_at hl 0 rfl) ?_
  refine lv_iload_n hxx hbb dX6_matches_1 rfl (lv_at hl 1 rfl) ?_
  refine lv_iload_n hxx hbb dX6_matches_2 rfl (lv_at hl 2 rfl) ?_
  refine ZI.callV S hK hP hS hB (kX6_cost l G A Y (nI i) (nI j) nn kd lf rt tx len ad mi wr C (hMC9.keep hKK) hC hMT) zwX6_162 zdX6_cost rfl ⟨Nat.le_trans (by decide) hfr, Nat.le_trans (by decide) hlo⟩ (by decide) (zcK6 zk_102) rfl rfl (Nat.le_of_ble_eq_true rfl) hl.1 dX6_matches_3 ⟨Nat.zero_le _, Nat.zero_le _⟩ (fun r_1 Y_2 H locs hq_3 hP hS => ?_)
  obtain ⟨hr_4, hk9, hMT⟩ := hq_3
  have hKK := hKK.trans hk9
  have hr_4 := hr_4.trans (cAI_nat hij hj hlen)
  have hrr := hr_4
  refine lv_istore_n (lv' := [(3, .int r_1), (0, .ref (A 102)), (1, .int (nI i)), (2, .int (nI j))]) hxx hbb dX6_matches_6 rfl hl (by decide) rfl (fun ls hl => ?_)
  refine lv_iload_n hxx hbb dX6_matches_7 rfl (lv_at hl 0 rfl) ?_
  refine lv_if_lt (tgt := 23) hxx hbb dX6_matches_8 (by decide) (fun c_5 => ?_) (fun c_5 => ?_)
  · skip
    refine lv_iconst (v := nI 0) hxx hbb dX6_matches_23 (by decide) ?_
    exact hret _ _ _ _ _ _ dX6_matches_24 (by first | rfl | decide) hP hS (⟨Or.inr ⟨mat_no hrr hbd (by first | exact Or.inl ‹_› | exact Or.inr ‹_›), rfl⟩, hKK, hMT⟩)
  · skip
    refine lv_iload_n hxx hbb dX6_matches_11 rfl (lv_at hl 0 rfl) ?_
    refine lv_aload_n hxx hbb dX6_matches_12 rfl (lv_at hl 1 rfl) ?_
    refine zgX6_132 S hK hP 102 (by decide) zk_102 (v := nI bd) ((hKK.2 _ (by decide)).trans h18) dX6_matches_13 ?_
    refine lv_icmp_gt (tgt := 23) hxx hbb dX6_matches_16 (by decide) (fun c_6 => ?_) (fun c_6 => ?_)
    · skip
      refine lv_iconst (v := nI 0) hxx hbb dX6_matches_23 (by decide) ?_
      exact hret _ _ _ _ _ _ dX6_matches_24 (by first | rfl | decide) hP hS (⟨Or.inr ⟨mat_no hrr hbd (by first | exact Or.inl ‹_› | exact Or.inr ‹_›), rfl⟩, hKK, hMT⟩)
    · skip
      refine lv_iconst (v := nI 1) hxx hbb dX6_matches_19 (by decide) ?_
      refine lv_goto (tgt := 24) hxx hbb dX6_matches_20 (by decide) ?_
      exact hret _ _ _ _ _ _ dX6_matches_24 (by first | rfl | decide) hP hS (⟨Or.inl ⟨mat_yes hrr (fun h0 => hCle _ (by omega) _ _ (by omega)) hbd ‹_› ‹_›, rfl⟩, hKK, hMT⟩)

set_option maxHeartbeats 4000000 in
set_option maxRecDepth 100000 in
theorem kX6_before (l : Launch) (G : zG) (A : Nat → Nat) (Y : zY) (be i j a b bd : Nat) (nn : Nat) (kd lf rt tx : Nat → Nat) (len ad mi wr : Nat) (C : Nat → Nat → Nat → Nat) (hMC : MC Y nn kd lf rt tx len ad mi wr) (hC : C = cCost kd lf rt tx ad mi wr) (hMT : MT Y C len nn) (hbe : be ≤ 1) (hbd : bd ≤ 999) (hij : i ≤ j) (hj : j ≤ len) (hab : a ≤ b) (hbl : b ≤ len) (hnz : nn ≠ 0) (h1 : C (nn - 1) i j ≤ bd) (h2 : C (nn - 1) a b ≤ bd) : ZI l yX6_before cX6_before 8 (.boolean) 5 122 G A Y [.ref (A 102), .int (nI be), .int (nI i), .int (nI j), .int (nI a), .int (nI b)] (fun r Y' => ((bf be (C (nn - 1)) i j a b ∧ r = nI 1) ∨ (¬ bf be (C (nn - 1)) i j a b ∧ r = nI 0)) ∧ MK Y Y' ∧ MT Y' C len nn) := by
  refine ZI.enter (by decide) (Nat.le_of_ble_eq_true rfl) ?_
  intro p e s m args below meth c R Q hxx hbb S hK hfr hlo hret H ls hP hS hl
  have hB : ∀ q, zAd A q → zAd A q := fun _ h => h
  have hl : lv_has ls 8 [(0, .ref (A 102)), (1, .int (nI be)), (2, .int (nI i)), (3, .int (nI j)), (4, .int (nI a)), (5, .int (nI b))] := hl
  have S : CallFix p m c cX6_before 8 s args wsL_law RX6 := S
  have hMC9 := hMC
  obtain ⟨hwf, hlen, had, hmi, hwr, htx, hY2, hY19, hY15, hY16, hY17, hYt, hYn⟩ := hMC
  have hnn := hwf.1
  have hCle : ∀ a, a < nn → ∀ i j, j ≤ 24 → C a i j ≤ 1000000 := fun a ha i j h => by rw [hC]; exact cCost_le hwf had hmi h a ha i
  have hKK : MK Y Y := MK.rf
  refine lv_aload_n hxx hbb dX6_before_0 rfl (lv_at hl 0 rfl) ?_
  refine lv_iload_n hxx hbb dX6_before_1 rfl (lv_at hl 2 rfl) ?_
  refine lv_iload_n hxx hbb dX6_before_2 rfl (lv_at hl 3 rfl) ?_
  refine ZI.callV S hK hP hS hB (kX6_cost l G A Y (nI i) (nI j) nn kd lf rt tx len ad mi wr C (hMC9.keep hKK) hC hMT) zwX6_162 zdX6_cost rfl ⟨Nat.le_trans (by decide) hfr, Nat.le_trans (by decide) hlo⟩ (by decide) (zcK6 zk_102) rfl rfl (Nat.le_of_ble_eq_true rfl) hl.1 dX6_before_3 ⟨Nat.zero_le _, Nat.zero_le _⟩ (fun r_1 Y_2 H locs hq_3 hP hS => ?_)
  obtain ⟨hr_4, hk9, hMT⟩ := hq_3
  have hKK := hKK.trans hk9
  have hr_4 := hr_4.trans (cAI_fin (by omega) (by omega) hlen hnz (by omega))
  subst hr_4
  refine lv_istore (lv' := [(6, .int (nI (C (nn - 1) i j))), (0, .ref (A 102)), (1, .int (nI be)), (2, .int (nI i)), (3, .int (nI j)), (4, .int (nI a)), (5, .int (nI b))]) hxx hbb dX6_before_6 hl (by decide) rfl (fun ls hl => ?_)
  refine lv_aload_n hxx hbb dX6_before_8 rfl (lv_at hl 1 rfl) ?_
  refine lv_iload hxx hbb dX6_before_9 (lv_at hl 5 rfl) ?_
  refine lv_iload hxx hbb dX6_before_11 (lv_at hl 6 rfl) ?_
  refine ZI.callV S hK hP hS hB (kX6_cost l G A Y_2 (nI a) (nI b) nn kd lf rt tx len ad mi wr C (hMC9.keep hKK) hC hMT) zwX6_162 zdX6_cost rfl ⟨Nat.le_trans (by decide) hfr, Nat.le_trans (by decide) hlo⟩ (by decide) (zcK6 zk_102) rfl rfl (Nat.le_of_ble_eq_true rfl) hl.1 dX6_before_13 ⟨Nat.zero_le _, Nat.zero_le _⟩ (fun r_5 Y_6 H locs hq_7 hP hS => ?_)
  obtain ⟨hr_8, hk9, hMT⟩ := hq_7
  have hKK := hKK.trans hk9
  have hr_8 := hr_8.trans (cAI_fin (by omega) (by omega) hlen hnz (by omega))
  subst hr_8
  refine lv_istore (lv' := [(7, .int (nI (C (nn - 1) a b))), (6, .int (nI (C (nn - 1) i j))), (0, .ref (A 102)), (1, .int (nI be)), (2, .int (nI i)), (3, .int (nI j)), (4, .int (nI a)), (5, .int (nI b))]) hxx hbb dX6_before_16 hl (by decide) rfl (fun ls hl => ?_)
  refine lv_iload_n hxx hbb dX6_before_18 rfl (lv_at hl 3 rfl) ?_
  refine zif_eq (tgt := 60) S (by omega) dX6_before_19 (by decide) (fun c_9 => ?_) (fun c_9 => ?_)
  · skip
    refine lv_iload_n hxx hbb dX6_before_60 rfl (lv_at hl 4 rfl) ?_
    refine lv_iload hxx hbb dX6_before_61 (lv_at hl 6 rfl) ?_
    refine zcmp_lt (tgt := 92) S (by omega) (by omega) dX6_before_63 (by decide) (fun c_10 => ?_) (fun c_10 => ?_)
    · skip
      refine lv_iconst (v := nI 1) hxx hbb dX6_before_92 (by decide) ?_
      refine lv_goto (tgt := 97) hxx hbb dX6_before_93 (by decide) ?_
      exact hret _ _ _ _ _ _ dX6_before_97 (by first | rfl | decide) hP hS (⟨Or.inl ⟨by unfold bf; omega, rfl⟩, hKK, hMT⟩)
    · skip
      refine lv_iload_n hxx hbb dX6_before_66 rfl (lv_at hl 4 rfl) ?_
      refine lv_iload hxx hbb dX6_before_67 (lv_at hl 6 rfl) ?_
      refine zcmp_ne (tgt := 96) S (by omega) (by omega) dX6_before_69 (by decide) (fun c_11 => ?_) (fun c_11 => ?_)
      · skip
        refine lv_iconst (v := nI 0) hxx hbb dX6_before_96 (by decide) ?_
        exact hret _ _ _ _ _ _ dX6_before_97 (by first | rfl | decide) hP hS (⟨Or.inr ⟨by unfold bf; omega, rfl⟩, hKK, hMT⟩)
      · skip
        refine lv_iload hxx hbb dX6_before_72 (lv_at hl 1 rfl) ?_
        refine lv_iload hxx hbb dX6_before_74 (lv_at hl 0 rfl) ?_
        refine zcmp_lt (tgt := 92) S (by omega) (by omega) dX6_before_76 (by decide) (fun c_12 => ?_) (fun c_12 => ?_)
        · skip
          refine lv_iconst (v := nI 1) hxx hbb dX6_before_92 (by decide) ?_
          refine lv_goto (tgt := 97) hxx hbb dX6_before_93 (by decide) ?_
          exact hret _ _ _ _ _ _ dX6_before_97 (by first | rfl | decide) hP hS (⟨Or.inl ⟨by unfold bf; omega, rfl⟩, hKK, hMT⟩)
        · skip
          refine lv_iload hxx hbb dX6_before_79 (lv_at hl 1 rfl) ?_
          refine lv_iload hxx hbb dX6_before_81 (lv_at hl 0 rfl) ?_
          refine zcmp_ne (tgt := 96) S (by omega) (by omega) dX6_before_83 (by decide) (fun c_13 => ?_) (fun c_13 => ?_)
          · skip
            refine lv_iconst (v := nI 0) hxx hbb dX6_before_96 (by decide) ?_
            exact hret _ _ _ _ _ _ dX6_before_97 (by first | rfl | decide) hP hS (⟨Or.inr ⟨by unfold bf; omega, rfl⟩, hKK, hMT⟩)
          · skip
            refine lv_iload_n hxx hbb dX6_before_86 rfl (lv_at hl 5 rfl) ?_
            refine lv_iload hxx hbb dX6_before_87 (lv_at hl 7 rfl) ?_
            refine zcmp_le (tgt := 96) S (by omega) (by omega) dX6_before_89 (by decide) (fun c_14 => ?_) (fun c_14 => ?_)
            · skip
              refine lv_iconst (v := nI 0) hxx hbb dX6_before_96 (by decide) ?_
              exact hret _ _ _ _ _ _ dX6_before_97 (by first | rfl | decide) hP hS (⟨Or.inr ⟨by unfold bf; omega, rfl⟩, hKK, hMT⟩)
            · skip
              refine lv_iconst (v := nI 1) hxx hbb dX6_before_92 (by decide) ?_
              refine lv_goto (tgt := 97) hxx hbb dX6_before_93 (by decide) ?_
              exact hret _ _ _ _ _ _ dX6_before_97 (by first | rfl | decide) hP hS (⟨Or.inl ⟨by unfold bf; omega, rfl⟩, hKK, hMT⟩)
  · skip
    refine lv_iload hxx hbb dX6_before_22 (lv_at hl 1 rfl) ?_
    refine lv_iload hxx hbb dX6_before_24 (lv_at hl 0 rfl) ?_
    refine zcmp_lt (tgt := 54) S (by omega) (by omega) dX6_before_26 (by decide) (fun c_15 => ?_) (fun c_15 => ?_)
    · skip
      refine lv_iconst (v := nI 1) hxx hbb dX6_before_54 (by decide) ?_
      refine lv_goto (tgt := 59) hxx hbb dX6_before_55 (by decide) ?_
      exact hret _ _ _ _ _ _ dX6_before_59 (by first | rfl | decide) hP hS (⟨Or.inl ⟨by unfold bf; omega, rfl⟩, hKK, hMT⟩)
    · skip
      refine lv_iload hxx hbb dX6_before_29 (lv_at hl 1 rfl) ?_
      refine lv_iload hxx hbb dX6_before_31 (lv_at hl 0 rfl) ?_
      refine zcmp_ne (tgt := 58) S (by omega) (by omega) dX6_before_33 (by decide) (fun c_16 => ?_) (fun c_16 => ?_)
      · skip
        refine lv_iconst (v := nI 0) hxx hbb dX6_before_58 (by decide) ?_
        exact hret _ _ _ _ _ _ dX6_before_59 (by first | rfl | decide) hP hS (⟨Or.inr ⟨by unfold bf; omega, rfl⟩, hKK, hMT⟩)
      · skip
        refine lv_iload_n hxx hbb dX6_before_36 rfl (lv_at hl 4 rfl) ?_
        refine lv_iload hxx hbb dX6_before_37 (lv_at hl 6 rfl) ?_
        refine zcmp_lt (tgt := 54) S (by omega) (by omega) dX6_before_39 (by decide) (fun c_17 => ?_) (fun c_17 => ?_)
        · skip
          refine lv_iconst (v := nI 1) hxx hbb dX6_before_54 (by decide) ?_
          refine lv_goto (tgt := 59) hxx hbb dX6_before_55 (by decide) ?_
          exact hret _ _ _ _ _ _ dX6_before_59 (by first | rfl | decide) hP hS (⟨Or.inl ⟨by unfold bf; omega, rfl⟩, hKK, hMT⟩)
        · skip
          refine lv_iload_n hxx hbb dX6_before_42 rfl (lv_at hl 4 rfl) ?_
          refine lv_iload hxx hbb dX6_before_43 (lv_at hl 6 rfl) ?_
          refine zcmp_ne (tgt := 58) S (by omega) (by omega) dX6_before_45 (by decide) (fun c_18 => ?_) (fun c_18 => ?_)
          · skip
            refine lv_iconst (v := nI 0) hxx hbb dX6_before_58 (by decide) ?_
            exact hret _ _ _ _ _ _ dX6_before_59 (by first | rfl | decide) hP hS (⟨Or.inr ⟨by unfold bf; omega, rfl⟩, hKK, hMT⟩)
          · skip
            refine lv_iload_n hxx hbb dX6_before_48 rfl (lv_at hl 5 rfl) ?_
            refine lv_iload hxx hbb dX6_before_49 (lv_at hl 7 rfl) ?_
            refine zcmp_le (tgt := 58) S (by omega) (by omega) dX6_before_51 (by decide) (fun c_19 => ?_) (fun c_19 => ?_)
            · skip
              refine lv_iconst (v := nI 0) hxx hbb dX6_before_58 (by decide) ?_
              exact hret _ _ _ _ _ _ dX6_before_59 (by first | rfl | decide) hP hS (⟨Or.inr ⟨by unfold bf; omega, rfl⟩, hKK, hMT⟩)
            · skip
              refine lv_iconst (v := nI 1) hxx hbb dX6_before_54 (by decide) ?_
              refine lv_goto (tgt := 59) hxx hbb dX6_before_55 (by decide) ?_
              exact hret _ _ _ _ _ _ dX6_before_59 (by first | rfl | decide) hP hS (⟨Or.inl ⟨by unfold bf; omega, rfl⟩, hKK, hMT⟩)

set_option maxHeartbeats 4000000 in
set_option maxRecDepth 100000 in
theorem kX6_find (l : Launch) (G : zG) (A : Nat → Nat) (Y : zY) (be bd : Nat) (nn : Nat) (kd lf rt tx : Nat → Nat) (len ad mi wr : Nat) (C : Nat → Nat → Nat → Nat) (hMC : MC Y nn kd lf rt tx len ad mi wr) (hC : C = cCost kd lf rt tx ad mi wr) (hMT : MT Y C len nn) (hbe : be ≤ 1) (hbd : bd ≤ 999) (h18 : Y 102 18 = nI bd) : ZI l yX6_find cX6_find 4 (.int) 6 149 G A Y [.ref (A 102), .int (nI be)] (fun r Y' => ∃ f t, Fnd be (C (nn - 1)) bd len nn (len + 1) 0 f t ∧ r = fRes (C (nn - 1)) f t ∧ Y' 102 23 = f ∧ Y' 102 24 = t ∧ MKf Y Y' ∧ MT Y' C len nn) := by
  refine ZI.enter (by decide) (Nat.le_of_ble_eq_true rfl) ?_
  intro p e s m args below meth c R Q hxx hbb S hK hfr hlo hret H ls hP hS hl
  have hB : ∀ q, zAd A q → zAd A q := fun _ h => h
  have hl : lv_has ls 4 [(0, .ref (A 102)), (1, .int (nI be))] := hl
  have S : CallFix p m c cX6_find 4 s args wsL_law RX6 := S
  have hMC9 := hMC
  obtain ⟨hwf, hlen, had, hmi, hwr, htx, hY2, hY19, hY15, hY16, hY17, hYt, hYn⟩ := hMC
  have hnn := hwf.1
  have hCle : ∀ a, a < nn → ∀ i j, j ≤ 24 → C a i j ≤ 1000000 := fun a ha i j h => by rw [hC]; exact cCost_le hwf had hmi h a ha i
  have hKK : MKf Y Y := MKf.rf
  refine lv_aload_n hxx hbb dX6_find_0 rfl (lv_at hl 0 rfl) ?_
  refine lv_iconst (v := (-1)) hxx hbb dX6_find_1 (by decide) ?_
  refine zpX6_53 S hK hP hS hB 102 (by decide) zk_102 dX6_find_2 (fun H locs hP hS => ?_)
  refine lv_aload_n hxx hbb dX6_find_5 rfl (lv_at hl 0 rfl) ?_
  refine lv_iconst (v := (-1)) hxx hbb dX6_find_6 (by decide) ?_
  refine zpX6_56 S hK hP hS hB 102 (by decide) zk_102 dX6_find_7 (fun H locs hP hS => ?_)
  refine lv_iconst (v := nI 0) hxx hbb dX6_find_10 (by decide) ?_
  refine lv_istore_n (lv' := [(2, .int (nI 0)), (0, .ref (A 102)), (1, .int (nI be))]) hxx hbb dX6_find_11 rfl hl (by decide) rfl (fun ls hl => ?_)
  have L_12 : ∀ (N_12 : Nat) (i : Nat) (Y1 : zY) (f t : Int32) (hi : i ≤ len + 1) (hKK : MKf Y Y1) (hMT : MT Y1 C len nn) (h23 : Y1 102 23 = f) (h24 : Y1 102 24 = t) (hF : Fnd be (C (nn - 1)) bd len nn i 0 f t), len + 1 - i < N_12 → ∀ (H : Heap) (locs : List Loc) (ls : Array Slot), va_P G.1 vwCl (zW G A Y1) H → va_S (zAd A) s.heap H locs → lv_has ls 4 [(0, .ref (A 102)), (1, .int (nI be)), (2, .int (nI i))] → W p l e R s m args below meth c H locs 0 0 Q (F0 m 12 ls []) := by
    intro N_12
    induction N_12 with
    | zero => intro i Y1 f t hi hKK hMT h23 h24 hF hm; exact absurd hm (Nat.not_lt_zero _)
    | succ N_12 ih_12 =>
      intro i Y1 f t hi hKK hMT h23 h24 hF hm_12 H locs ls hP hS hl
      refine lv_iload_n hxx hbb dX6_find_12 rfl (lv_at hl 2 rfl) ?_
      refine lv_aload_n hxx hbb dX6_find_13 rfl (lv_at hl 0 rfl) ?_
      refine zgX6_135 S hK hP 102 (by decide) zk_102 (v := nI len) ((hKK.2 _ (by decide) (by decide) (by decide)).trans hY19) dX6_find_14 ?_
      refine zcmp_gt (tgt := 86) S (by omega) (by omega) dX6_find_17 (by decide) (fun c_1 => ?_) (fun c_1 => ?_)
      · skip
        rcases id hF with ⟨hf1, hf2, hno⟩ | ⟨a, b, hfa, htb, hab, hbl, hnz, hKb, hbest⟩
        · skip
          have h23x := h23.trans hf1
          refine lv_aload_n hxx hbb dX6_find_86 rfl (lv_at hl 0 rfl) ?_
          refine zgX6_53 S hK hP 102 (by decide) zk_102 (v := (-1)) (h23x) dX6_find_87 ?_
          refine lv_if_ge (tgt := 97) hxx hbb dX6_find_90 (by decide) (fun c_2 => ?_) (fun c_2 => ?_)
          · skip
            exact absurd ‹(0 : Int32) ≤ -1› (by decide)
          · skip
            refine lv_iconst (v := (-1)) hxx hbb dX6_find_93 (by decide) ?_
            refine lv_goto (tgt := 109) hxx hbb dX6_find_94 (by decide) ?_
            exact hret _ _ _ _ _ _ dX6_find_109 (rfl) hP hS (⟨f, t, by rw [show len + 1 = i by omega]; exact hF, by unfold fRes; rw [hf1]; rfl, h23, h24, hKK, hMT⟩)
        · skip
          have h23x := h23.trans hfa; have h24x := h24.trans htb
          refine lv_aload_n hxx hbb dX6_find_86 rfl (lv_at hl 0 rfl) ?_
          refine zgX6_53 S hK hP 102 (by decide) zk_102 (v := nI a) (h23x) dX6_find_87 ?_
          refine zif_ge (tgt := 97) S (by omega) dX6_find_90 (by decide) ?_
          refine lv_aload_n hxx hbb dX6_find_97 rfl (lv_at hl 0 rfl) ?_
          refine lv_aload_n hxx hbb dX6_find_98 rfl (lv_at hl 0 rfl) ?_
          refine zgX6_53 S hK hP 102 (by decide) zk_102 (v := nI a) (h23x) dX6_find_99 ?_
          refine lv_aload_n hxx hbb dX6_find_102 rfl (lv_at hl 0 rfl) ?_
          refine zgX6_56 S hK hP 102 (by decide) zk_102 (v := nI b) (h24x) dX6_find_103 ?_
          refine ZI.callV S hK hP hS hB (kX6_cost l G A Y1 (nI a) (nI b) nn kd lf rt tx len ad mi wr C (hMC9.keepf hKK) hC hMT) zwX6_162 zdX6_cost rfl ⟨Nat.le_trans (by decide) hfr, Nat.le_trans (by decide) hlo⟩ (by decide) (zcK6 zk_102) rfl rfl (Nat.le_of_ble_eq_true rfl) hl.1 dX6_find_106 ⟨Nat.zero_le _, Nat.zero_le _⟩ (fun r_4 Y_5 H locs hq_6 hP hS => ?_)
          obtain ⟨hr_7, hk9, hMT⟩ := hq_6
          have hKK := hKK.mk hk9
          have hr_7 := hr_7.trans (cAI_fin hab hbl hlen hnz (by omega))
          subst hr_7
          exact hret _ _ _ _ _ _ dX6_find_109 (rfl) hP hS (⟨f, t, by rw [show len + 1 = i by omega]; exact hF, by unfold fRes; rw [hfa, htb, if_neg (nI_pos (by omega)), nI_clamp (by omega), nI_clamp (by omega)], (hk9.2 23 (by decide)).trans h23, (hk9.2 24 (by decide)).trans h24, hKK, hMT⟩)
      · skip
        refine lv_iload_n hxx hbb dX6_find_20 rfl (lv_at hl 2 rfl) ?_
        refine lv_istore_n (lv' := [(3, .int (nI i)), (0, .ref (A 102)), (1, .int (nI be)), (2, .int (nI i))]) hxx hbb dX6_find_21 rfl hl (by decide) rfl (fun ls hl => ?_)
        have L_22 : ∀ (N_22 : Nat) (j : Nat) (Y1 : zY) (f t : Int32) (hij : i ≤ j) (hj : j ≤ len + 1) (hKK : MKf Y Y1) (hMT : MT Y1 C len nn) (h23 : Y1 102 23 = f) (h24 : Y1 102 24 = t) (hF : Fnd be (C (nn - 1)) bd len nn i j f t), len + 1 - j < N_22 → ∀ (H : Heap) (locs : List Loc) (ls : Array Slot), va_P G.1 vwCl (zW G A Y1) H → va_S (zAd A) s.heap H locs → lv_has ls 4 [(0, .ref (A 102)), (1, .int (nI be)), (2, .int (nI i)), (3, .int (nI j))] → W p l e R s m args below meth c H locs 0 0 Q (F0 m 22 ls []) := by
          intro N_22
          induction N_22 with
          | zero => intro j Y1 f t hij hj hKK hMT h23 h24 hF hm; exact absurd hm (Nat.not_lt_zero _)
          | succ N_22 ih_22 =>
            intro j Y1 f t hij hj hKK hMT h23 h24 hF hm_22 H locs ls hP hS hl
            refine lv_iload_n hxx hbb dX6_find_22 rfl (lv_at hl 3 rfl) ?_
            refine lv_aload_n hxx hbb dX6_find_23 rfl (lv_at hl 0 rfl) ?_
            refine zgX6_135 S hK hP 102 (by decide) zk_102 (v := nI len) ((hKK.2 _ (by decide) (by decide) (by decide)).trans hY19) dX6_find_24 ?_
            refine zcmp_gt (tgt := 80) S (by omega) (by omega) dX6_find_27 (by decide) (fun c_8 => ?_) (fun c_8 => ?_)
            · skip
              refine lv_iinc (v := nI (i + 1)) (lv' := [(2, .int (nI (i + 1))), (0, .ref (A 102)), (1, .int (nI be)), (3, .int (nI j))]) hxx hbb dX6_find_80 hl (k := 2) rfl (zinc1 _) (by decide) rfl (fun ls hl => ?_)
              refine lv_goto (tgt := 12) hxx hbb dX6_find_83 (by decide) ?_
              exact ih_12 (i + 1) Y1 f t (by omega) hKK hMT h23 h24 (hF.next (by omega)) (by omega) _ _ _ hP hS (lv_sub hl [1, 2, 0] rfl)
            · skip
              refine lv_aload_n hxx hbb dX6_find_30 rfl (lv_at hl 0 rfl) ?_
              refine lv_iload_n hxx hbb dX6_find_31 rfl (lv_at hl 2 rfl) ?_
              refine lv_iload_n hxx hbb dX6_find_32 rfl (lv_at hl 3 rfl) ?_
              refine ZI.callV S hK hP hS hB (kX6_matches l G A Y1 i j bd nn kd lf rt tx len ad mi wr C (hMC9.keepf hKK) hC hMT hbd ((hKK.2 _ (by decide) (by decide) (by decide)).trans h18) (by omega) (by omega)) zwX6_165 zdX6_matches rfl ⟨Nat.le_trans (by decide) hfr, Nat.le_trans (by decide) hlo⟩ (by decide) (zcK6 zk_102) rfl rfl (Nat.le_of_ble_eq_true rfl) hl.1 dX6_find_33 ⟨Nat.zero_le _, Nat.zero_le _⟩ (fun r_9 Y_10 H locs hq_11 hP hS => ?_)
              obtain ⟨hr9, hk9, hMT⟩ := hq_11
              have hKK := hKK.mk hk9
              rcases hr9 with ⟨hb_12, hr9⟩ | ⟨hb_12, hr9⟩
              · skip
                subst hr9
                refine zif_eq (tgt := 74) S (by omega) dX6_find_36 (by decide) (fun c_13 => ?_) (fun c_13 => ?_)
                · skip
                  exact absurd c_13 (by decide)
                · skip
                  have h23 := (hk9.2 23 (by decide)).trans h23; have h24 := (hk9.2 24 (by decide)).trans h24
                  rcases id hF with ⟨hf1, hf2, hno⟩ | ⟨a, b, hfa, htb, hab, hbl, hnz, hKb, hbest⟩
                  · skip
                    have h23 := h23.trans hf1
                    refine lv_aload_n hxx hbb dX6_find_39 rfl (lv_at hl 0 rfl) ?_
                    refine zgX6_53 S hK hP 102 (by decide) zk_102 (v := (-1)) (h23) dX6_find_40 ?_
                    refine lv_if_lt (tgt := 64) hxx hbb dX6_find_43 (by decide) (fun c_14 => ?_) (fun c_14 => ?_)
                    · skip
                      refine lv_aload_n hxx hbb dX6_find_64 rfl (lv_at hl 0 rfl) ?_
                      refine lv_iload_n hxx hbb dX6_find_65 rfl (lv_at hl 2 rfl) ?_
                      refine zpX6_53 S hK hP hS hB 102 (by decide) zk_102 dX6_find_66 (fun H locs hP hS => ?_)
                      refine lv_aload_n hxx hbb dX6_find_69 rfl (lv_at hl 0 rfl) ?_
                      refine lv_iload_n hxx hbb dX6_find_70 rfl (lv_at hl 3 rfl) ?_
                      refine zpX6_56 S hK hP hS hB 102 (by decide) zk_102 dX6_find_71 (fun H locs hP hS => ?_)
                      refine lv_iinc (v := nI (j + 1)) (lv' := [(3, .int (nI (j + 1))), (0, .ref (A 102)), (1, .int (nI be)), (2, .int (nI i))]) hxx hbb dX6_find_74 hl (k := 3) rfl (zinc1 _) (by decide) rfl (fun ls hl => ?_)
                      refine lv_goto (tgt := 22) hxx hbb dX6_find_77 (by decide) ?_
                      exact ih_22 (j + 1) (zU (zU Y_10 102 23 (nI i)) 102 24 (nI j)) (nI i) (nI j) (by omega) (by omega) hKK.p23.p24 ((hMT.put (by decide)).put (by decide)) ((zU_nj (by decide)).trans zU_eq) zU_eq (hF.take (by omega) (by omega) hb_12 (fun a b e _ _ _ => absurd (by rw [← e, hf1]; decide : nI a < 0) (nI_pos (by omega)))) (by omega) _ _ _ hP hS (lv_sub hl [1, 2, 3, 0] rfl)
                    · skip
                      exact absurd (by decide) ‹¬ (-1 : Int32) < 0›
                  · skip
                    have h23 := h23.trans hfa; have h24 := h24.trans htb
                    refine lv_aload_n hxx hbb dX6_find_39 rfl (lv_at hl 0 rfl) ?_
                    refine zgX6_53 S hK hP 102 (by decide) zk_102 (v := nI a) (h23) dX6_find_40 ?_
                    refine zif_lt S (by omega) dX6_find_43 ⟨64, by decide⟩ ?_
                    refine lv_aload_n hxx hbb dX6_find_46 rfl (lv_at hl 0 rfl) ?_
                    refine lv_iload_n hxx hbb dX6_find_47 rfl (lv_at hl 1 rfl) ?_
                    refine lv_iload_n hxx hbb dX6_find_48 rfl (lv_at hl 2 rfl) ?_
                    refine lv_iload_n hxx hbb dX6_find_49 rfl (lv_at hl 3 rfl) ?_
                    refine lv_aload_n hxx hbb dX6_find_50 rfl (lv_at hl 0 rfl) ?_
                    refine zgX6_53 S hK hP 102 (by decide) zk_102 (v := nI a) (h23) dX6_find_51 ?_
                    refine lv_aload_n hxx hbb dX6_find_54 rfl (lv_at hl 0 rfl) ?_
                    refine zgX6_56 S hK hP 102 (by decide) zk_102 (v := nI b) (h24) dX6_find_55 ?_
                    refine ZI.callV S hK hP hS hB (kX6_before l G A Y_10 be i j a b bd nn kd lf rt tx len ad mi wr C (hMC9.keepf hKK) hC hMT hbe hbd (by omega) (by omega) (by omega) (by omega) hnz (by omega) (by omega)) zwX6_169 zdX6_before rfl ⟨Nat.le_trans (by decide) hfr, Nat.le_trans (by decide) hlo⟩ (by decide) (zcK6 zk_102) rfl rfl (Nat.le_of_ble_eq_true rfl) hl.1 dX6_find_58 ⟨Nat.zero_le _, Nat.zero_le _⟩ (fun r_16 Y_17 H locs hq_18 hP hS => ?_)
                    obtain ⟨hr9, hk9, hMT⟩ := hq_18
                    have hKK := hKK.mk hk9
                    rcases hr9 with ⟨hb_19, hr9⟩ | ⟨hb_19, hr9⟩
                    · skip
                      subst hr9
                      refine zif_eq (tgt := 74) S (by omega) dX6_find_61 (by decide) (fun c_20 => ?_) (fun c_20 => ?_)
                      · skip
                        exact absurd c_20 (by decide)
                      · skip
                        refine lv_aload_n hxx hbb dX6_find_64 rfl (lv_at hl 0 rfl) ?_
                        refine lv_iload_n hxx hbb dX6_find_65 rfl (lv_at hl 2 rfl) ?_
                        refine zpX6_53 S hK hP hS hB 102 (by decide) zk_102 dX6_find_66 (fun H locs hP hS => ?_)
                        refine lv_aload_n hxx hbb dX6_find_69 rfl (lv_at hl 0 rfl) ?_
                        refine lv_iload_n hxx hbb dX6_find_70 rfl (lv_at hl 3 rfl) ?_
                        refine zpX6_56 S hK hP hS hB 102 (by decide) zk_102 dX6_find_71 (fun H locs hP hS => ?_)
                        refine lv_iinc (v := nI (j + 1)) (lv' := [(3, .int (nI (j + 1))), (0, .ref (A 102)), (1, .int (nI be)), (2, .int (nI i))]) hxx hbb dX6_find_74 hl (k := 3) rfl (zinc1 _) (by decide) rfl (fun ls hl => ?_)
                        refine lv_goto (tgt := 22) hxx hbb dX6_find_77 (by decide) ?_
                        exact ih_22 (j + 1) (zU (zU Y_17 102 23 (nI i)) 102 24 (nI j)) (nI i) (nI j) (by omega) (by omega) hKK.p23.p24 ((hMT.put (by decide)).put (by decide)) ((zU_nj (by decide)).trans zU_eq) zU_eq (hF.take (by omega) (by omega) hb_12 (fun a2 b2 e1 e2 q1 q2 => by have g1 := (nI_eq (by omega) (by omega)).mp (hfa.symm.trans e1); have g2 := (nI_eq (by omega) (by omega)).mp (htb.symm.trans e2); subst g1; subst g2; exact hb_19)) (by omega) _ _ _ hP hS (lv_sub hl [1, 2, 3, 0] rfl)
                    · skip
                      subst hr9
                      refine zif_eq (tgt := 74) S (by omega) dX6_find_61 (by decide) (fun c_21 => ?_) (fun c_21 => ?_)
                      · skip
                        refine lv_iinc (v := nI (j + 1)) (lv' := [(3, .int (nI (j + 1))), (0, .ref (A 102)), (1, .int (nI be)), (2, .int (nI i))]) hxx hbb dX6_find_74 hl (k := 3) rfl (zinc1 _) (by decide) rfl (fun ls hl => ?_)
                        refine lv_goto (tgt := 22) hxx hbb dX6_find_77 (by decide) ?_
                        exact ih_22 (j + 1) Y_17 (nI a) (nI b) (by omega) (by omega) hKK hMT ((hk9.2 23 (by decide)).trans h23) ((hk9.2 24 (by decide)).trans h24) (Fnd.keep (by rw [← hfa, ← htb]; exact hF) (by omega) (by omega) (by omega) hb_19) (by omega) _ _ _ hP hS (lv_sub hl [1, 2, 3, 0] rfl)
                      · skip
                        exact absurd c_21 (by decide)
              · skip
                subst hr9
                refine zif_eq (tgt := 74) S (by omega) dX6_find_36 (by decide) (fun c_22 => ?_) (fun c_22 => ?_)
                · skip
                  refine lv_iinc (v := nI (j + 1)) (lv' := [(3, .int (nI (j + 1))), (0, .ref (A 102)), (1, .int (nI be)), (2, .int (nI i))]) hxx hbb dX6_find_74 hl (k := 3) rfl (zinc1 _) (by decide) rfl (fun ls hl => ?_)
                  refine lv_goto (tgt := 22) hxx hbb dX6_find_77 (by decide) ?_
                  exact ih_22 (j + 1) Y_10 f t (by omega) (by omega) hKK hMT ((hk9.2 23 (by decide)).trans h23) ((hk9.2 24 (by decide)).trans h24) (hF.skip hb_12) (by omega) _ _ _ hP hS (lv_sub hl [1, 2, 3, 0] rfl)
                · skip
                  exact absurd c_22 (by decide)
        exact L_22 (_ + 1) i Y1 f t (by omega) (by omega) hKK hMT h23 h24 hF.fst (Nat.lt_succ_self _) _ _ _ hP hS (lv_sub hl [1, 2, 3, 0] rfl)
  exact L_12 (_ + 1) 0 (zU (zU Y 102 23 (-1)) 102 24 (-1)) (-1) (-1) (by omega) MKf.rf.p23.p24 ((hMT.put (by decide)).put (by decide)) ((zU_nj (by decide)).trans zU_eq) zU_eq Fnd.nil (Nat.lt_succ_self _) _ _ _ hP hS (lv_sub hl [1, 2, 0] rfl)

set_option maxHeartbeats 4000000 in
set_option maxRecDepth 100000 in
theorem kX6_ends (l : Launch) (G : zG) (A : Nat → Nat) (Y : zY) (bd : Nat) (nn : Nat) (kd lf rt tx : Nat → Nat) (len ad mi wr : Nat) (C : Nat → Nat → Nat → Nat) (hMC : MC Y nn kd lf rt tx len ad mi wr) (hC : C = cCost kd lf rt tx ad mi wr) (hMT : MT Y C len nn) (hbd : bd ≤ 999) (h18 : Y 102 18 = nI bd) : ZI l yX6_ends cX6_ends 4 (.int) 6 145 G A Y [.ref (A 102)] (fun r Y' => r = eA (eM (C (nn - 1)) bd nn) (len + 1) ∧ MK Y Y' ∧ MT Y' C len nn) := by
  refine ZI.enter (by decide) (Nat.le_of_ble_eq_true rfl) ?_
  intro p e s m args below meth c R Q hxx hbb S hK hfr hlo hret H ls hP hS hl
  have hB : ∀ q, zAd A q → zAd A q := fun _ h => h
  have hl : lv_has ls 4 [(0, .ref (A 102))] := hl
  have S : CallFix p m c cX6_ends 4 s args wsL_law RX6 := S
  have hMC9 := hMC
  obtain ⟨hwf, hlen, had, hmi, hwr, htx, hY2, hY19, hY15, hY16, hY17, hYt, hYn⟩ := hMC
  have hnn := hwf.1
  have hCle : ∀ a, a < nn → ∀ i j, j ≤ 24 → C a i j ≤ 1000000 := fun a ha i j h => by rw [hC]; exact cCost_le hwf had hmi h a ha i
  have hKK : MK Y Y := MK.rf
  refine lv_iconst (v := nI 0) hxx hbb dX6_ends_0 (by decide) ?_
  refine lv_istore_n (lv' := [(1, .int (nI 0)), (0, .ref (A 102))]) hxx hbb dX6_ends_1 rfl hl (by decide) rfl (fun ls hl => ?_)
  refine lv_iconst (v := nI 0) hxx hbb dX6_ends_2 (by decide) ?_
  refine lv_istore_n (lv' := [(2, .int (nI 0)), (1, .int (nI 0)), (0, .ref (A 102))]) hxx hbb dX6_ends_3 rfl hl (by decide) rfl (fun ls hl => ?_)
  have L_4 : ∀ (N_4 : Nat) (j : Nat) (x : Int32) (Y1 : zY) (hj : j ≤ len + 1) (hKK : MK Y Y1) (hMT : MT Y1 C len nn) (hx : x = eA (eM (C (nn - 1)) bd nn) j), len + 1 - j < N_4 → ∀ (H : Heap) (locs : List Loc) (ls : Array Slot), va_P G.1 vwCl (zW G A Y1) H → va_S (zAd A) s.heap H locs → lv_has ls 4 [(0, .ref (A 102)), (1, .int x), (2, .int (nI j))] → W p l e R s m args below meth c H locs 0 0 Q (F0 m 4 ls []) := by
    intro N_4
    induction N_4 with
    | zero => intro j x Y1 hj hKK hMT hx hm; exact absurd hm (Nat.not_lt_zero _)
    | succ N_4 ih_4 =>
      intro j x Y1 hj hKK hMT hx hm_4 H locs ls hP hS hl
      refine lv_iload_n hxx hbb dX6_ends_4 rfl (lv_at hl 2 rfl) ?_
      refine lv_aload_n hxx hbb dX6_ends_5 rfl (lv_at hl 0 rfl) ?_
      refine zgX6_135 S hK hP 102 (by decide) zk_102 (v := nI len) ((hKK.2 _ (by decide)).trans hY19) dX6_ends_6 ?_
      refine zcmp_gt (tgt := 50) S (by omega) (by omega) dX6_ends_9 (by decide) (fun c_1 => ?_) (fun c_1 => ?_)
      · skip
        refine lv_iload_n hxx hbb dX6_ends_50 rfl (lv_at hl 1 rfl) ?_
        exact hret _ _ _ _ _ _ dX6_ends_51 (rfl) hP hS (⟨by rw [hx, show j = len + 1 by omega], hKK, hMT⟩)
      · skip
        refine lv_iconst (v := nI 0) hxx hbb dX6_ends_12 (by decide) ?_
        refine lv_istore_n (lv' := [(3, .int (nI 0)), (0, .ref (A 102)), (1, .int x), (2, .int (nI j))]) hxx hbb dX6_ends_13 rfl hl (by decide) rfl (fun ls hl => ?_)
        have L_14 : ∀ (N_14 : Nat) (i : Nat) (x : Int32) (Y1 : zY) (hi : i ≤ j + 1) (hKK : MK Y Y1) (hMT : MT Y1 C len nn) (hx : x = eR (eM (C (nn - 1)) bd nn) j (eA (eM (C (nn - 1)) bd nn) j) i), j + 1 - i < N_14 → ∀ (H : Heap) (locs : List Loc) (ls : Array Slot), va_P G.1 vwCl (zW G A Y1) H → va_S (zAd A) s.heap H locs → lv_has ls 4 [(0, .ref (A 102)), (1, .int x), (2, .int (nI j)), (3, .int (nI i))] → W p l e R s m args below meth c H locs 0 0 Q (F0 m 14 ls []) := by
          intro N_14
          induction N_14 with
          | zero => intro i x Y1 hi hKK hMT hx hm; exact absurd hm (Nat.not_lt_zero _)
          | succ N_14 ih_14 =>
            intro i x Y1 hi hKK hMT hx hm_14 H locs ls hP hS hl
            refine lv_iload_n hxx hbb dX6_ends_14 rfl (lv_at hl 3 rfl) ?_
            refine lv_iload_n hxx hbb dX6_ends_15 rfl (lv_at hl 2 rfl) ?_
            refine zcmp_gt (tgt := 44) S (by omega) (by omega) dX6_ends_16 (by decide) (fun c_2 => ?_) (fun c_2 => ?_)
            · skip
              refine lv_iinc (v := nI (j + 1)) (lv' := [(2, .int (nI (j + 1))), (0, .ref (A 102)), (1, .int x), (3, .int (nI i))]) hxx hbb dX6_ends_44 hl (k := 2) rfl (zinc1 _) (by decide) rfl (fun ls hl => ?_)
              refine lv_goto (tgt := 4) hxx hbb dX6_ends_47 (by decide) ?_
              exact ih_4 (j + 1) x Y1 (by omega) hKK hMT (by rw [hx, show i = j + 1 by omega]; rfl) (by omega) _ _ _ hP hS (lv_sub hl [1, 2, 0] rfl)
            · skip
              refine lv_aload_n hxx hbb dX6_ends_19 rfl (lv_at hl 0 rfl) ?_
              refine lv_iload_n hxx hbb dX6_ends_20 rfl (lv_at hl 3 rfl) ?_
              refine lv_iload_n hxx hbb dX6_ends_21 rfl (lv_at hl 2 rfl) ?_
              refine ZI.callV S hK hP hS hB (kX6_matches l G A Y1 i j bd nn kd lf rt tx len ad mi wr C (hMC9.keep hKK) hC hMT hbd ((hKK.2 _ (by decide)).trans h18) (by omega) (by omega)) zwX6_165 zdX6_matches rfl ⟨Nat.le_trans (by decide) hfr, Nat.le_trans (by decide) hlo⟩ (by decide) (zcK6 zk_102) rfl rfl (Nat.le_of_ble_eq_true rfl) hl.1 dX6_ends_22 ⟨Nat.zero_le _, Nat.zero_le _⟩ (fun r_3 Y_4 H locs hq_5 hP hS => ?_)
              obtain ⟨hr9, hk9, hMT⟩ := hq_5
              have hKK := hKK.trans hk9
              rcases hr9 with ⟨hb_6, hr9⟩ | ⟨hb_6, hr9⟩
              · skip
                subst hr9
                refine zif_eq (tgt := 36) S (by omega) dX6_ends_25 (by decide) (fun c_7 => ?_) (fun c_7 => ?_)
                · skip
                  exact absurd c_7 (by decide)
                · skip
                  refine lv_iload_n hxx hbb dX6_ends_28 rfl (lv_at hl 1 rfl) ?_
                  refine lv_iconst (v := nI 1) hxx hbb dX6_ends_29 (by decide) ?_
                  refine lv_iload_n hxx hbb dX6_ends_30 rfl (lv_at hl 2 rfl) ?_
                  refine lv_ishl hxx hbb dX6_ends_31 ?_
                  refine lv_ior hxx hbb dX6_ends_32 ?_
                  refine lv_goto (tgt := 37) hxx hbb dX6_ends_33 (by decide) ?_
                  refine lv_istore_n (lv' := [(1, .int (x ||| ((nI 1) <<< ((nI j) &&& 31)))), (0, .ref (A 102)), (2, .int (nI j)), (3, .int (nI i))]) hxx hbb dX6_ends_37 rfl hl (by decide) rfl (fun ls hl => ?_)
                  refine lv_iinc (v := nI (i + 1)) (lv' := [(3, .int (nI (i + 1))), (1, .int (x ||| ((nI 1) <<< ((nI j) &&& 31)))), (0, .ref (A 102)), (2, .int (nI j))]) hxx hbb dX6_ends_38 hl (k := 3) rfl (zinc1 _) (by decide) rfl (fun ls hl => ?_)
                  refine lv_goto (tgt := 14) hxx hbb dX6_ends_41 (by decide) ?_
                  exact ih_14 (i + 1) (x ||| ((nI 1) <<< ((nI j) &&& 31))) Y_4 (by omega) hKK hMT (by simp only [eR, ← hx]; rw [if_pos (by rw [eM, if_pos hb_6])]) (by omega) _ _ _ hP hS (lv_sub hl [2, 1, 3, 0] rfl)
              · skip
                subst hr9
                refine zif_eq (tgt := 36) S (by omega) dX6_ends_25 (by decide) (fun c_8 => ?_) (fun c_8 => ?_)
                · skip
                  refine lv_iload_n hxx hbb dX6_ends_36 rfl (lv_at hl 1 rfl) ?_
                  refine lv_istore_n (lv' := [(1, .int x), (0, .ref (A 102)), (2, .int (nI j)), (3, .int (nI i))]) hxx hbb dX6_ends_37 rfl hl (by decide) rfl (fun ls hl => ?_)
                  refine lv_iinc (v := nI (i + 1)) (lv' := [(3, .int (nI (i + 1))), (1, .int x), (0, .ref (A 102)), (2, .int (nI j))]) hxx hbb dX6_ends_38 hl (k := 3) rfl (zinc1 _) (by decide) rfl (fun ls hl => ?_)
                  refine lv_goto (tgt := 14) hxx hbb dX6_ends_41 (by decide) ?_
                  exact ih_14 (i + 1) x Y_4 (by omega) hKK hMT (by simp only [eR, ← hx]; rw [if_neg (by rw [eM, if_neg hb_6]; decide)]) (by omega) _ _ _ hP hS (lv_sub hl [2, 1, 3, 0] rfl)
                · skip
                  exact absurd c_8 (by decide)
        exact L_14 (_ + 1) 0 x Y1 (by omega) hKK hMT hx (Nat.lt_succ_self _) _ _ _ hP hS (lv_sub hl [1, 2, 3, 0] rfl)
  exact L_4 (_ + 1) 0 (nI 0) Y (by omega) MK.rf hMT rfl (Nat.lt_succ_self _) _ _ _ hP hS (lv_sub hl [2, 1, 0] rfl)
