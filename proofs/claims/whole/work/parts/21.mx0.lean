/-! ===== costs as the class holds them; its chains run from the right ===== -/
def ci (v : Nat) : Nat := if v < 1000000 then v else 268435456
theorem ci_lt {v : Nat} (h : v < 1000000) : ci v = v := if_pos h
theorem ci_inf {v : Nat} (h : ¬ v < 1000000) : ci v = 268435456 := if_neg h
theorem ci_le (v : Nat) : ci v ≤ 268435456 := by unfold ci; split <;> omega
theorem ci_min {x a b : Nat} (hx : x ≤ 1000000) (h : a < 1000000 → b < 1000000 → a + b < 1000000) : min (ci x) (ci a + ci b) = ci (if cAdd a b < x then cAdd a b else x) := by
  by_cases hab : a < 1000000 ∧ b < 1000000
  · obtain ⟨ha, hb⟩ := hab
    have hs := h ha hb
    have e : cAdd a b = a + b := by unfold cAdd; exact if_neg (by omega)
    rw [e, ci_lt ha, ci_lt hb]
    by_cases q : a + b < x
    · rw [if_pos q, ci_lt hs]
      have : a + b ≤ ci x := by unfold ci; split <;> omega
      omega
    · rw [if_neg q, ci_lt (v := x) (by omega)]; omega
  · have e : cAdd a b = 1000000 := by unfold cAdd; exact if_pos (by omega)
    rw [e, if_neg (by omega)]
    have h1 := ci_le x
    have h2 : 268435456 ≤ ci a + ci b := by
      by_cases ha : a < 1000000
      · rw [ci_inf (v := b) (by omega)]; omega
      · rw [ci_inf ha]; omega
    omega
theorem cFit_left (st : Nat) (tx : Nat → Nat) (i : Nat) : ∀ n, cFit st tx i (n + 1) = if cFit st tx (i + 1) n ≠ 0 then 1 else if st / 2 ^ (tx i - 97) % 2 = 1 then 1 else 0
  | 0 => by simp [cFit]
  | n + 1 => by
    have ih := cFit_left st tx i n
    show (if cFit st tx i (n + 1) ≠ 0 then 1 else _) = if (if cFit st tx (i + 1) n ≠ 0 then 1 else _) ≠ 0 then 1 else _
    rw [ih, show i + (n + 1) = i + 1 + n by omega]
    by_cases h1 : cFit st tx (i + 1) n = 0
    · by_cases h2 : st / 2 ^ (tx i - 97) % 2 = 1
      · simp [h1, h2]
      · by_cases h3 : st / 2 ^ (tx (i + 1 + n) - 97) % 2 = 1
        · simp [h1, h2, h3]
        · simp [h1, h2, h3]
    · simp [h1]
theorem cFit_back {st : Nat} {tx : Nat → Nat} {q j b : Nat} (h1 : 1 ≤ q) (h2 : q ≤ j) (hb : b = cFit st tx q (j - q)) : cFit st tx (q - 1) (j - (q - 1)) = if b ≠ 0 then 1 else if st / 2 ^ (tx (q - 1) - 97) % 2 = 1 then 1 else 0 := by
  have h := cFit_left st tx (q - 1) (j - q)
  rw [show q - 1 + 1 = q by omega, ← hb] at h
  rw [show j - (q - 1) = j - q + 1 by omega]
  exact h
theorem cSet_small {st : Nat} {tx : Nat → Nat} {ad mi wr i j : Nat} (ha : ad ≤ 9) (hm : mi ≤ 9) (hj : j ≤ 24) : cSet st tx ad mi wr i j < 1000000 := by
  have h1 := c9 (a := j - i) (b := ad) (by omega) ha
  unfold cSet
  split
  · omega
  · by_cases h : mi + (j - i) * ad < (j - i - 1) * ad + (if cFit st tx i (j - i) = 0 then wr else 0)
    · rw [if_pos h]; omega
    · rw [if_neg h]; omega
theorem cSet_min {st : Nat} {tx : Nat → Nat} {ad mi wr i j f : Nat} (hf : f = cFit st tx i (j - i)) (h : i < j) : cSet st tx ad mi wr i j = min (mi + (j - i) * ad) ((j - i - 1) * ad + (if f = 0 then wr else 0)) := by
  unfold cSet
  rw [← hf, if_neg (by omega)]
  generalize (if f = 0 then wr else 0) = z
  split <;> omega
/-- the least over the first piece's ends i + 1 .. i + n -/
def cRv (x : Nat → Nat → Nat) (R : Nat → Nat) (i j : Nat) : Nat → Nat
  | 0 => x i j
  | n + 1 => if cAdd (x i (i + 1 + n)) (R (i + 1 + n)) < cRv x R i j n then cAdd (x i (i + 1 + n)) (R (i + 1 + n)) else cRv x R i j n
theorem cRv_le {x : Nat → Nat → Nat} {R : Nat → Nat} {i j : Nat} (h : x i j ≤ 1000000) : ∀ n, cRv x R i j n ≤ 1000000
  | 0 => h
  | n + 1 => by
    have := cRv_le (R := R) h n
    simp only [cRv]; split <;> omega
def tad (a b : Nat) : Nat := min 1000000 (a + b)
theorem tad_le {y a b : Nat} (h : y ≤ 1000000) : y ≤ cAdd a b ↔ y ≤ tad a b := by
  unfold cAdd tad; split <;> omega
theorem tad_eq {y a b : Nat} (h : y ≤ 1000000) (e : y = cAdd a b) : y = tad a b := by
  unfold cAdd at e; unfold tad; split at e <;> omega
theorem cPlv_low {f x : Nat → Nat → Nat} {i j : Nat} : ∀ n, cPlv f x i j n ≤ x i j ∧ ∀ k, k < n → cPlv f x i j n ≤ cAdd (f i (i + 1 + k)) (x (i + 1 + k) j)
  | 0 => ⟨Nat.le_refl _, fun k hk => absurd hk (Nat.not_lt_zero _)⟩
  | n + 1 => by
    obtain ⟨h1, h2⟩ := cPlv_low (f := f) (x := x) (i := i) (j := j) n
    simp only [cPlv]
    refine ⟨by split <;> omega, fun k hk => ?_⟩
    rcases Nat.lt_succ_iff_lt_or_eq.mp hk with e | e
    · have := h2 k e; split <;> omega
    · subst e; split <;> omega
theorem cPlv_hit {f x : Nat → Nat → Nat} {i j : Nat} : ∀ n, cPlv f x i j n = x i j ∨ ∃ k, k < n ∧ cPlv f x i j n = cAdd (f i (i + 1 + k)) (x (i + 1 + k) j)
  | 0 => Or.inl rfl
  | n + 1 => by
    simp only [cPlv]
    split
    · exact Or.inr ⟨n, by omega, rfl⟩
    · rcases cPlv_hit (f := f) (x := x) (i := i) (j := j) n with h | ⟨k, h1, h2⟩
      · exact Or.inl h
      · exact Or.inr ⟨k, by omega, h2⟩
theorem cRv_low {x : Nat → Nat → Nat} {R : Nat → Nat} {i j : Nat} : ∀ n, cRv x R i j n ≤ x i j ∧ ∀ k, k < n → cRv x R i j n ≤ cAdd (x i (i + 1 + k)) (R (i + 1 + k))
  | 0 => ⟨Nat.le_refl _, fun k hk => absurd hk (Nat.not_lt_zero _)⟩
  | n + 1 => by
    obtain ⟨h1, h2⟩ := cRv_low (x := x) (R := R) (i := i) (j := j) n
    simp only [cRv]
    refine ⟨by split <;> omega, fun k hk => ?_⟩
    rcases Nat.lt_succ_iff_lt_or_eq.mp hk with e | e
    · have := h2 k e; split <;> omega
    · subst e; split <;> omega
theorem cRv_hit {x : Nat → Nat → Nat} {R : Nat → Nat} {i j : Nat} : ∀ n, cRv x R i j n = x i j ∨ ∃ k, k < n ∧ cRv x R i j n = cAdd (x i (i + 1 + k)) (R (i + 1 + k))
  | 0 => Or.inl rfl
  | n + 1 => by
    simp only [cRv]
    split
    · exact Or.inr ⟨n, by omega, rfl⟩
    · rcases cRv_hit (x := x) (R := R) (i := i) (j := j) n with h | ⟨k, h1, h2⟩
      · exact Or.inl h
      · exact Or.inr ⟨k, by omega, h2⟩
/-- pieces of x from the left and from the right make the same least sums -/
theorem cPl_right {x : Nat → Nat → Nat} {j : Nat} (hx : ∀ a b, a ≤ b → b ≤ j → x a b ≤ 1000000) {i : Nat} (hij : i ≤ j) : cPl x i j = cRv x (fun k => cPl x k j) i j (j - i - 1) := by
  have P1 : ∀ a b, a ≤ b → b ≤ j → cPl x a b ≤ 1000000 := fun a b h1 h2 => cPl_le (hx a b h1 h2)
  have PX : ∀ a b, cPl x a b ≤ x a b := fun a b => by rw [cPl_eq]; exact (cPlv_low _).1
  have P2 : ∀ a k b, a < k → k < b → b ≤ j → cPl x a b ≤ tad (cPl x a k) (x k b) := fun a k b h1 h2 h3 => by
    refine (tad_le (P1 a b (by omega) h3)).mp ?_
    have h := (cPlv_low (f := cPl x) (x := x) (i := a) (j := b) (b - a - 1)).2 (k - a - 1) (by omega)
    rw [← cPl_eq, show a + 1 + (k - a - 1) = k by omega] at h
    exact h
  have P3 : ∀ a b, a ≤ b → b ≤ j → cPl x a b = x a b ∨ ∃ k, a < k ∧ k < b ∧ cPl x a b = tad (cPl x a k) (x k b) := fun a b h1 h2 => by
    rcases cPlv_hit (f := cPl x) (x := x) (i := a) (j := b) (b - a - 1) with h | ⟨k, h3, h4⟩
    · rw [← cPl_eq] at h; exact Or.inl h
    · rw [← cPl_eq] at h4
      exact Or.inr ⟨a + 1 + k, by omega, by omega, tad_eq (P1 a b h1 h2) h4⟩
  -- joining a first piece to chains
  have J1 : ∀ n a k b, b - k = n → a < k → k < b → b ≤ j → cPl x a b ≤ tad (x a k) (cPl x k b) := by
    intro n
    induction n using Nat.strongRecOn with
    | ind n ih =>
      intro a k b hn h1 h2 h3
      rcases P3 k b (by omega) h3 with h | ⟨q, h4, h5, h6⟩
      · have g1 := P2 a k b h1 h2 h3
        have g2 := PX a k
        rw [h]; unfold tad at *; omega
      · have g1 := ih (q - k) (by omega) a k q rfl h1 h4 (by omega)
        have g2 := P2 a q b (by omega) h5 h3
        rw [h6]; unfold tad at *; omega
  have J2 : ∀ n a b, b - a = n → a ≤ b → b ≤ j → cPl x a b = x a b ∨ ∃ k, a < k ∧ k < b ∧ tad (x a k) (cPl x k b) ≤ cPl x a b := by
    intro n
    induction n using Nat.strongRecOn with
    | ind n ih =>
      intro a b hn h1 h2
      rcases P3 a b h1 h2 with h | ⟨k, h3, h4, h5⟩
      · exact Or.inl h
      · rcases ih (k - a) (by omega) a k rfl (by omega) (by omega) with g | ⟨q, g1, g2, g3⟩
        · refine Or.inr ⟨k, h3, h4, ?_⟩
          have := PX k b
          rw [h5, g]; unfold tad at *; omega
        · refine Or.inr ⟨q, g1, by omega, ?_⟩
          have := P2 q k b g2 h4 h2
          rw [h5]; unfold tad at *; omega
  have R1 := cRv_le (R := fun k => cPl x k j) (hx i j hij (Nat.le_refl _)) (j - i - 1)
  apply Nat.le_antisymm
  · rcases cRv_hit (x := x) (R := fun k => cPl x k j) (i := i) (j := j) (j - i - 1) with h | ⟨k, h1, h2⟩
    · rw [h]; exact PX i j
    · rw [tad_eq R1 h2]
      exact J1 _ i (i + 1 + k) j rfl (by omega) (by omega) (Nat.le_refl _)
  · rcases J2 _ i j rfl hij (Nat.le_refl _) with h | ⟨k, h1, h2, h3⟩
    · rw [h]; exact (cRv_low _).1
    · refine Nat.le_trans ?_ h3
      have g := (cRv_low (x := x) (R := fun k => cPl x k j) (i := i) (j := j) (j - i - 1)).2 (k - i - 1) (by omega)
      rw [show i + 1 + (k - i - 1) = k by omega] at g
      exact (tad_le R1).mp g
/-! ===== finite costs stay small: by the sizes of the nodes' trees ===== -/
def al (s : Nat) : Nat := 99 * s
def be (s : Nat) : Nat := 9 + 99 * tri (s - 1)
/-- sizes: a node's is more than its operands' together -/
def szN (nn : Nat) (kd lf rt : Nat → Nat) (sz : Nat → Nat) : Prop := ∀ n, n < nn → 1 ≤ sz n ∧ sz n ≤ 24 ∧ (kd n ≠ 0 → sz (lf n) + 1 ≤ sz n) ∧ (kd n = 1 ∨ kd n = 2 → sz (lf n) + sz (rt n) + 1 ≤ sz n)
theorem be_mono {s t : Nat} (h : s ≤ t) : be s ≤ be t := by
  have := tri_mono (a := s - 1) (b := t - 1) (by omega)
  unfold be; omega
theorem be_step {s t : Nat} (h0 : 1 ≤ s) (h : s + 1 ≤ t) : be s + al s ≤ be t := by
  refine Nat.le_trans ?_ (be_mono h)
  have := tri_s (s - 1)
  unfold be al
  rw [show s + 1 - 1 = s - 1 + 1 by omega, this]; omega
theorem bd_big {s m : Nat} (hs : s ≤ 24) (hm : m ≤ 24) : al s + be s * m < 1000000 := by
  have h1 := be_mono hs
  have h2 : be s * m ≤ be 24 * 24 := Nat.mul_le_mul h1 hm
  have h3 : be 24 = 27333 := by decide
  unfold al; omega
/-- the costs of x are INFINITE or at most a + b n on n letters -/
def Bn (x : Nat → Nat → Nat) (a b J : Nat) : Prop := ∀ i j, i ≤ j → j ≤ J → x i j < 1000000 → x i j ≤ a + b * (j - i)
theorem Bn.mono {x : Nat → Nat → Nat} {a b a' b' J : Nat} (h : Bn x a b J) (ha : a ≤ a') (hb : b ≤ b') : Bn x a' b' J := fun i j h1 h2 h3 => by
  have h4 := h i j h1 h2 h3
  have h5 : b * (j - i) ≤ b' * (j - i) := Nat.mul_le_mul_right _ hb
  omega
theorem Bn_set {st : Nat} {tx : Nat → Nat} {ad mi wr J : Nat} (ha : ad ≤ 9) (hm : mi ≤ 9) : Bn (cSet st tx ad mi wr) 9 9 J := fun i j h1 h2 _ => by
  have h5 : (j - i) * ad ≤ 9 * (j - i) := by rw [Nat.mul_comm]; exact Nat.mul_le_mul_right _ ha
  unfold cSet
  split
  · omega
  · by_cases h : mi + (j - i) * ad < (j - i - 1) * ad + (if cFit st tx i (j - i) = 0 then wr else 0)
    · rw [if_pos h]; omega
    · rw [if_neg h]; omega
theorem cRow_hit {f g : Nat → Nat → Nat} {i j : Nat} : ∀ n, cRow f g i j n = 1000000 ∨ ∃ k, k < n ∧ cRow f g i j n = cAdd (f i (i + k)) (g (i + k) j)
  | 0 => Or.inl rfl
  | n + 1 => by
    simp only [cRow]
    split
    · exact Or.inr ⟨n, by omega, rfl⟩
    · rcases cRow_hit (f := f) (g := g) (i := i) (j := j) n with h | ⟨k, h1, h2⟩
      · exact Or.inl h
      · exact Or.inr ⟨k, by omega, h2⟩
theorem cAdd_fin {a b : Nat} (h : cAdd a b < 1000000) : a < 1000000 ∧ b < 1000000 ∧ cAdd a b = a + b := by
  unfold cAdd at *; split at h
  · omega
  · rename_i h1; rw [if_neg h1]; omega
theorem Bn_row {f g : Nat → Nat → Nat} {a a' b J : Nat} (hf : Bn f a b J) (hg : Bn g a' b J) : Bn (fun i j => cRow f g i j (j - i + 1)) (a + a') b J := fun i j h1 h2 h3 => by
  have h3 : cRow f g i j (j - i + 1) < 1000000 := h3
  rcases cRow_hit (f := f) (g := g) (i := i) (j := j) (j - i + 1) with h | ⟨k, h4, h5⟩
  · omega
  · rw [h5] at h3
    obtain ⟨q1, q2, q3⟩ := cAdd_fin h3
    have g1 := hf i (i + k) (by omega) (by omega) q1
    have g2 := hg (i + k) j (by omega) h2 q2
    show cRow f g i j (j - i + 1) ≤ _
    rw [h5, q3]
    have h6 : b * (j - i) = b * (i + k - i) + b * (j - (i + k)) := by rw [← Nat.mul_add]; congr 1; omega
    omega
theorem Bn_pl {x : Nat → Nat → Nat} {a b J : Nat} (hx : Bn x a b J) : Bn (cPl x) a (a + b) J := by
  have H : ∀ n i j, j - i = n → i ≤ j → j ≤ J → cPl x i j < 1000000 → cPl x i j ≤ a + (a + b) * (j - i) := by
    intro n
    induction n using Nat.strongRecOn with
    | ind n ih =>
      intro i j hn h1 h2 h3
      rcases cPlv_hit (f := cPl x) (x := x) (i := i) (j := j) (j - i - 1) with h | ⟨k, h4, h5⟩
      · rw [← cPl_eq] at h
        rw [h] at h3 ⊢
        have := hx i j h1 h2 h3
        have h6 : b * (j - i) ≤ (a + b) * (j - i) := Nat.mul_le_mul_right _ (by omega)
        omega
      · rw [← cPl_eq] at h5
        rw [h5] at h3 ⊢
        obtain ⟨q1, q2, q3⟩ := cAdd_fin h3
        have g1 := ih (i + 1 + k - i) (by omega) i (i + 1 + k) rfl (by omega) (by omega) q1
        have g2 := hx (i + 1 + k) j (by omega) h2 q2
        rw [q3]
        obtain ⟨r, hr⟩ : ∃ r, j - (i + 1 + k) = r + 1 := ⟨j - (i + 1 + k) - 1, by omega⟩
        have h6 : (a + b) * (j - i) = (a + b) * (i + 1 + k - i) + (a + b) * (j - (i + 1 + k)) := by rw [← Nat.mul_add]; congr 1; omega
        have h7 : (a + b) * (j - (i + 1 + k)) = a * (j - (i + 1 + k)) + b * (j - (i + 1 + k)) := Nat.add_mul _ _ _
        have h8 : a ≤ a * (j - (i + 1 + k)) := by rw [hr]; exact Nat.le_mul_of_pos_right _ (by omega)
        omega
  exact fun i j h1 h2 h3 => H _ i j rfl h1 h2 h3
theorem Bn_node {nn : Nat} {kd lf rt tx : Nat → Nat} {ad mi wr : Nat} {sz : Nat → Nat} {T : Nat → Nat → Nat → Nat} {n J : Nat} (hw : wfN nn kd lf rt) (hs : szN nn kd lf rt sz) (hn : n < nn) (ha : ad ≤ 9) (hm : mi ≤ 9) (hT : ∀ a, a < n → Bn (T a) (al (sz a)) (be (sz a)) J) : Bn (fun i j => cStar kd ad (cNode kd lf rt tx ad mi wr T n i j) n i j) (al (sz n)) (be (sz n)) J := by
  obtain ⟨g1, g2, g3, g4, g5, g6⟩ := hw.2 n hn
  obtain ⟨s1, s2, s3, s4⟩ := hs n hn
  have hb9 : 9 ≤ be (sz n) := by unfold be; omega
  have ha9 : 99 ≤ al (sz n) := by unfold al; omega
  have hmul : ∀ m, m * ad ≤ be (sz n) * m := fun m => by rw [Nat.mul_comm]; exact Nat.mul_le_mul_right _ (by omega)
  have hL : kd n ≠ 0 → Bn (T (lf n)) (al (sz (lf n))) (be (sz (lf n))) J ∧ al (sz (lf n)) ≤ al (sz n) ∧ be (sz (lf n)) + al (sz (lf n)) ≤ be (sz n) := fun h => by
    have h1 := g4 h
    have h2 := s3 h
    obtain ⟨q1, -⟩ := hs (lf n) (by omega)
    exact ⟨hT _ h1, by unfold al; omega, be_step q1 h2⟩
  intro i j h1 h2 h3
  have h3 : cStar kd ad (cNode kd lf rt tx ad mi wr T n i j) n i j < 1000000 := h3
  show cStar kd ad (cNode kd lf rt tx ad mi wr T n i j) n i j ≤ _
  have hm2 := hmul (j - i)
  by_cases k0 : kd n = 0
  · have e : cStar kd ad (cNode kd lf rt tx ad mi wr T n i j) n i j = cSet (lf n) tx ad mi wr i j := by unfold cStar; rw [if_neg (by omega)]; unfold cNode; rw [if_pos k0]
    rw [e] at h3 ⊢
    have := (Bn_set (J := J) ha hm).mono (a' := al (sz n)) (b' := be (sz n)) (by omega) hb9 i j h1 h2 h3
    exact this
  obtain ⟨l1, l2, l3⟩ := hL k0
  by_cases k1 : kd n = 1
  · have e : cStar kd ad (cNode kd lf rt tx ad mi wr T n i j) n i j = cRow (T (lf n)) (T (rt n)) i j (j - i + 1) := by unfold cStar; rw [if_neg (by omega)]; unfold cNode; rw [if_neg k0, if_pos k1]
    rw [e] at h3 ⊢
    have r1 := g5 (Or.inl k1)
    have r2 := s4 (Or.inl k1)
    have rB := (hT _ r1).mono (b' := be (sz n)) (Nat.le_refl _) (be_mono (by omega))
    have := ((Bn_row (l1.mono (b' := be (sz n)) (Nat.le_refl _) (by omega)) rB).mono (a' := al (sz n)) (by unfold al; omega) (Nat.le_refl _)) i j h1 h2 h3
    exact this
  by_cases k2 : kd n = 2
  · have e : cStar kd ad (cNode kd lf rt tx ad mi wr T n i j) n i j = if T (lf n) i j < T (rt n) i j then T (lf n) i j else T (rt n) i j := by unfold cStar; rw [if_neg (by omega)]; unfold cNode; rw [if_neg k0, if_neg k1, if_pos k2]
    rw [e] at h3 ⊢
    have r1 := g5 (Or.inr k2)
    have r2 := s4 (Or.inr k2)
    split
    · rename_i hh; rw [if_pos hh] at h3
      exact (l1.mono l2 (by omega)) i j h1 h2 h3
    · rename_i hh; rw [if_neg hh] at h3
      exact ((hT _ r1).mono (by unfold al; omega) (be_mono (by omega))) i j h1 h2 h3
  by_cases k5 : kd n = 5
  · have e : cStar kd ad (cNode kd lf rt tx ad mi wr T n i j) n i j = if T (lf n) i j < (j - i) * ad then T (lf n) i j else (j - i) * ad := by unfold cStar; rw [if_neg (by omega)]; unfold cNode; rw [if_neg k0, if_neg k1, if_neg k2, if_pos k5]
    rw [e]; split <;> omega
  by_cases k6 : kd n = 6
  · have e : cStar kd ad (cNode kd lf rt tx ad mi wr T n i j) n i j = if T (lf n) i j ≤ rt n then T (lf n) i j else 1000000 := by unfold cStar; rw [if_neg (by omega)]; unfold cNode; rw [if_neg k0, if_neg k1, if_neg k2, if_neg k5, if_pos k6]
    rw [e] at h3 ⊢
    have := g6 k6
    split
    · omega
    · rename_i hh; rw [if_neg hh] at h3; omega
  have ep : cNode kd lf rt tx ad mi wr T n i j = cPl (T (lf n)) i j := by unfold cNode; rw [if_neg k0, if_neg k1, if_neg k2, if_neg k5, if_neg k6]
  rw [ep] at h3 ⊢
  unfold cStar at h3 ⊢
  have hp := (Bn_pl l1).mono (a' := al (sz n)) (b' := be (sz n)) l2 (by omega) i j h1 h2
  by_cases k3 : kd n = 3
  · rw [if_pos k3]; split <;> omega
  · rw [if_neg k3] at h3 ⊢; exact hp h3
theorem Bn_cost {nn : Nat} {kd lf rt tx : Nat → Nat} {ad mi wr : Nat} {sz : Nat → Nat} (J : Nat) (hw : wfN nn kd lf rt) (hs : szN nn kd lf rt sz) (ha : ad ≤ 9) (hm : mi ≤ 9) : ∀ n, n < nn → Bn (cCost kd lf rt tx ad mi wr n) (al (sz n)) (be (sz n)) J := by
  intro n
  induction n using Nat.strongRecOn with
  | ind n ih =>
    intro hn i j h1 h2 h3
    have g := hw.2 n hn
    rw [cCost_eq g.2.2.2.1 g.2.2.2.2.1] at h3 ⊢
    exact Bn_node hw hs hn ha hm (fun a h => ih a h (by omega)) i j h1 h2 h3
/-- finite costs of a row's two sides, and of a chain's pieces, make a finite sum -/
theorem row_sum {nn : Nat} {kd lf rt tx : Nat → Nat} {ad mi wr : Nat} {sz : Nat → Nat} (hw : wfN nn kd lf rt) (hs : szN nn kd lf rt sz) (ha : ad ≤ 9) (hm : mi ≤ 9) {n : Nat} (hn : n < nn) (hk : kd n = 1) {i k j : Nat} (h1 : i ≤ k) (h2 : k ≤ j) (hj : j ≤ 24) (f1 : cCost kd lf rt tx ad mi wr (lf n) i k < 1000000) (f2 : cCost kd lf rt tx ad mi wr (rt n) k j < 1000000) : cCost kd lf rt tx ad mi wr (lf n) i k + cCost kd lf rt tx ad mi wr (rt n) k j < 1000000 := by
  obtain ⟨g1, g2, g3, g4, g5, g6⟩ := hw.2 n hn
  obtain ⟨s1, s2, s3, s4⟩ := hs n hn
  have l := g4 (by omega); have r := g5 (Or.inl hk); have s5 := s4 (Or.inl hk)
  have b1 := Bn_cost (tx := tx) (wr := wr) 24 hw hs ha hm (lf n) (by omega) i k h1 (by omega) f1
  have b2 := Bn_cost (tx := tx) (wr := wr) 24 hw hs ha hm (rt n) (by omega) k j h2 hj f2
  have q := bd_big (s := sz n) (m := j - i) s2 (by omega)
  have q1 : be (sz (lf n)) * (k - i) ≤ be (sz n) * (k - i) := Nat.mul_le_mul_right _ (be_mono (by omega))
  have q2 : be (sz (rt n)) * (j - k) ≤ be (sz n) * (j - k) := Nat.mul_le_mul_right _ (be_mono (by omega))
  have q3 : be (sz n) * (j - i) = be (sz n) * (k - i) + be (sz n) * (j - k) := by rw [← Nat.mul_add]; congr 1; omega
  unfold al at *; omega
theorem pl_sum {nn : Nat} {kd lf rt tx : Nat → Nat} {ad mi wr : Nat} {sz : Nat → Nat} (hw : wfN nn kd lf rt) (hs : szN nn kd lf rt sz) (ha : ad ≤ 9) (hm : mi ≤ 9) {n : Nat} (hn : n < nn) (hk : kd n ≠ 0) {i k j : Nat} (h1 : i < k) (h2 : k < j) (hj : j ≤ 24) (f1 : cCost kd lf rt tx ad mi wr (lf n) i k < 1000000) (f2 : cPl (cCost kd lf rt tx ad mi wr (lf n)) k j < 1000000) : cCost kd lf rt tx ad mi wr (lf n) i k + cPl (cCost kd lf rt tx ad mi wr (lf n)) k j < 1000000 := by
  obtain ⟨g1, g2, g3, g4, g5, g6⟩ := hw.2 n hn
  obtain ⟨s1, s2, s3, s4⟩ := hs n hn
  have l := g4 hk; have s5 := s3 hk
  have b0 := Bn_cost (tx := tx) (wr := wr) 24 hw hs ha hm (lf n) (by omega)
  have b1 := b0 i k (by omega) (by omega) f1
  have b2 := Bn_pl b0 k j (by omega) hj f2
  obtain ⟨t1, -⟩ := hs (lf n) (by omega)
  have q := bd_big (s := sz n) (m := j - i) s2 (by omega)
  have qs := be_step t1 s5
  have q1 : be (sz (lf n)) * (k - i) + al (sz (lf n)) ≤ be (sz n) * (k - i) := by
    obtain ⟨r, hr⟩ : ∃ r, k - i = r + 1 := ⟨k - i - 1, by omega⟩
    have h8 : al (sz (lf n)) ≤ al (sz (lf n)) * (k - i) := by rw [hr]; exact Nat.le_mul_of_pos_right _ (by omega)
    have h9 : (be (sz (lf n)) + al (sz (lf n))) * (k - i) ≤ be (sz n) * (k - i) := Nat.mul_le_mul_right _ qs
    rw [Nat.add_mul] at h9
    omega
  have q2 : (al (sz (lf n)) + be (sz (lf n))) * (j - k) ≤ be (sz n) * (j - k) := Nat.mul_le_mul_right _ (by omega)
  have q3 : be (sz n) * (j - i) = be (sz n) * (k - i) + be (sz n) * (j - k) := by rw [← Nat.mul_add]; congr 1; omega
  have q4 : al (sz (lf n)) ≤ al (sz n) := by unfold al; omega
  omega
