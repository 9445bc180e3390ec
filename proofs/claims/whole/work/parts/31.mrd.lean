theorem nU_row {S : nY} {a j b v : Nat} (h : b ≠ a) : nU S a j v b = S b := by funext k; exact nU_np h
def oI (x : Nat) : Int32 := nI x - nI 1
theorem oI_0 : oI 0 = -1 := by decide
theorem oI_pos {x : Nat} (h : 1 ≤ x) : oI x = nI (x - 1) := pk_sub h
theorem oI_s (x : Nat) : oI (x + 1) = nI x := by rw [oI_pos (by omega), Nat.add_sub_cancel]
def cs (s : Nat) : Nat := if s = 2 then 4 else if s = 3 then 5 else if s = 4 then 6 else if s = 5 then 2 else if s = 6 then 3 else s
/-- the draft at 3 -/
def DR (Y : zY) (S : nY) : Prop := Y 3 4 = nI (S 0 2) ∧ ∀ n, n < S 0 2 → n < 24 → Y 4 n = nI (km (S 1 n)) ∧ Y 5 n = (if S 1 n = 0 then -1 else nI (S 2 n)) ∧ Y 6 n = (if S 1 n = 1 ∨ S 1 n = 2 then nI (S 3 n) else -1) ∧ Y 7 n = nI (if S 1 n = 0 then S 2 n else if S 1 n = 6 then S 3 n else 0)
def RD (Y : zY) (S : nY) : Prop := (Y 2 1 = nI (cs (S 0 0)) ∧ Y 2 2 = nI (S 0 1) ∧ Y 2 6 = nI (S 0 3) ∧ Y 2 7 = nI (S 0 4) ∧ Y 2 8 = nI (S 0 5)) ∧ (∀ e, e ≤ 6 → Y 8 e = oI (S 4 e) ∧ Y 9 e = oI (S 5 e) ∧ Y 10 e = oI (S 6 e)) ∧ DR Y S
/-- only the reader's places may have changed -/
def KR (Y Z : zY) : Prop := ∀ q, (q < 2 ∨ 10 < q) → Z q = Y q
theorem KR.rf {Y : zY} : KR Y Y := fun _ _ => rfl
theorem KR.trans {X Y Z : zY} (h : KR X Y) (g : KR Y Z) : KR X Z := fun q a => (g q a).trans (h q a)
theorem KR.u {X Y : zY} {a j : Nat} {v : Int32} (h : KR X Y) (h1 : 2 ≤ a ∧ a ≤ 10) : KR X (zU Y a j v) := fun q b => (zU_row (by omega)).trans (h q b)
theorem DR.u {Y : zY} {S : nY} {a j : Nat} {v : Int32} {b k x : Nat} (h : DR Y S) (ha : a < 3 ∨ 7 < a) (hb : 4 ≤ b ∨ (b = 0 ∧ k ≠ 2)) : DR (zU Y a j v) (nU S b k x) := by
  have e2 : nU S b k x 0 2 = S 0 2 := by
    rcases hb with hb | hb
    · exact nU_np (by omega)
    · exact nU_nj (by omega)
  have e1 : ∀ q, 1 ≤ q → q ≤ 3 → nU S b k x q = S q := fun q h1 h2 => nU_row (by omega)
  unfold DR at *
  rw [e2, zU_np (by omega), zU_row (a := 4) (by omega), zU_row (a := 5) (by omega), zU_row (a := 6) (by omega), zU_row (a := 7) (by omega), e1 1 (by decide) (by decide), e1 2 (by decide) (by decide), e1 3 (by decide) (by decide)]
  exact h
theorem RD.st {Y : zY} {S : nY} {s : Nat} {v : Int32} (h : RD Y S) (hv : v = nI (cs s)) : RD (zU Y 2 1 v) (nU S 0 0 s) := by
  obtain ⟨⟨h1, h2, h3, h4, h5⟩, h6, h7⟩ := h
  refine ⟨⟨by rw [zU_eq, nU_eq, hv], ?_, ?_, ?_, ?_⟩, fun e he => ?_, h7.u (by omega) (by omega)⟩
  · rw [zU_nj (by decide), nU_nj (by decide)]; exact h2
  · rw [zU_nj (by decide), nU_nj (by decide)]; exact h3
  · rw [zU_nj (by decide), nU_nj (by decide)]; exact h4
  · rw [zU_nj (by decide), nU_nj (by decide)]; exact h5
  · rw [zU_np (by decide), zU_np (by decide), zU_np (by decide), nU_np (by decide), nU_np (by decide), nU_np (by decide)]; exact h6 e he
theorem RD.dp {Y : zY} {S : nY} {s : Nat} (h : RD Y S) : RD (zU Y 2 2 (nI s)) (nU S 0 1 s) := by
  obtain ⟨⟨h1, h2, h3, h4, h5⟩, h6, h7⟩ := h
  refine ⟨⟨?_, by rw [zU_eq, nU_eq], ?_, ?_, ?_⟩, fun e he => ?_, h7.u (by omega) (by omega)⟩
  · rw [zU_nj (by decide), nU_nj (by decide)]; exact h1
  · rw [zU_nj (by decide), nU_nj (by decide)]; exact h3
  · rw [zU_nj (by decide), nU_nj (by decide)]; exact h4
  · rw [zU_nj (by decide), nU_nj (by decide)]; exact h5
  · rw [zU_np (by decide), zU_np (by decide), zU_np (by decide), nU_np (by decide), nU_np (by decide), nU_np (by decide)]; exact h6 e he
theorem RD.sl {Y : zY} {S : nY} {s : Nat} {v : Int32} (h : RD Y S) (hv : v = nI s) : RD (zU Y 2 6 v) (nU S 0 3 s) := by
  obtain ⟨⟨h1, h2, h3, h4, h5⟩, h6, h7⟩ := h
  refine ⟨⟨?_, ?_, by rw [zU_eq, nU_eq, hv], ?_, ?_⟩, fun e he => ?_, h7.u (by omega) (by omega)⟩
  · rw [zU_nj (by decide), nU_nj (by decide)]; exact h1
  · rw [zU_nj (by decide), nU_nj (by decide)]; exact h2
  · rw [zU_nj (by decide), nU_nj (by decide)]; exact h4
  · rw [zU_nj (by decide), nU_nj (by decide)]; exact h5
  · rw [zU_np (by decide), zU_np (by decide), zU_np (by decide), nU_np (by decide), nU_np (by decide), nU_np (by decide)]; exact h6 e he
theorem RD.so {Y : zY} {S : nY} {s : Nat} (h : RD Y S) : RD (zU Y 2 7 (nI s)) (nU S 0 4 s) := by
  obtain ⟨⟨h1, h2, h3, h4, h5⟩, h6, h7⟩ := h
  refine ⟨⟨?_, ?_, ?_, by rw [zU_eq, nU_eq], ?_⟩, fun e he => ?_, h7.u (by omega) (by omega)⟩
  · rw [zU_nj (by decide), nU_nj (by decide)]; exact h1
  · rw [zU_nj (by decide), nU_nj (by decide)]; exact h2
  · rw [zU_nj (by decide), nU_nj (by decide)]; exact h3
  · rw [zU_nj (by decide), nU_nj (by decide)]; exact h5
  · rw [zU_np (by decide), zU_np (by decide), zU_np (by decide), nU_np (by decide), nU_np (by decide), nU_np (by decide)]; exact h6 e he
theorem RD.li {Y : zY} {S : nY} {s : Nat} (h : RD Y S) : RD (zU Y 2 8 (nI s)) (nU S 0 5 s) := by
  obtain ⟨⟨h1, h2, h3, h4, h5⟩, h6, h7⟩ := h
  refine ⟨⟨?_, ?_, ?_, ?_, by rw [zU_eq, nU_eq]⟩, fun e he => ?_, h7.u (by omega) (by omega)⟩
  · rw [zU_nj (by decide), nU_nj (by decide)]; exact h1
  · rw [zU_nj (by decide), nU_nj (by decide)]; exact h2
  · rw [zU_nj (by decide), nU_nj (by decide)]; exact h3
  · rw [zU_nj (by decide), nU_nj (by decide)]; exact h4
  · rw [zU_np (by decide), zU_np (by decide), zU_np (by decide), nU_np (by decide), nU_np (by decide), nU_np (by decide)]; exact h6 e he
theorem RD.it {Y : zY} {S : nY} {e x : Nat} {v : Int32} (h : RD Y S) (hv : v = oI x) : RD (zU Y 8 e v) (nU S 4 e x) := by
  obtain ⟨h1, h6, h7⟩ := h
  refine ⟨?_, fun a ha => ?_, h7.u (by omega) (by omega)⟩
  · rw [zU_np (by decide), zU_np (by decide), zU_np (by decide), zU_np (by decide), zU_np (by decide), nU_np (by decide), nU_np (by decide), nU_np (by decide), nU_np (by decide), nU_np (by decide)]; exact h1
  · rw [zU_np (a := 9) (by decide), zU_np (a := 10) (by decide), nU_np (b := 5) (by decide), nU_np (b := 6) (by decide)]
    refine ⟨?_, (h6 a ha).2⟩
    by_cases q : a = e
    · subst q; rw [zU_eq, nU_eq, hv]
    · rw [zU_nj q, nU_nj q]; exact (h6 a ha).1
theorem RD.ro {Y : zY} {S : nY} {e x : Nat} {v : Int32} (h : RD Y S) (hv : v = oI x) : RD (zU Y 9 e v) (nU S 5 e x) := by
  obtain ⟨h1, h6, h7⟩ := h
  refine ⟨?_, fun a ha => ?_, h7.u (by omega) (by omega)⟩
  · rw [zU_np (by decide), zU_np (by decide), zU_np (by decide), zU_np (by decide), zU_np (by decide), nU_np (by decide), nU_np (by decide), nU_np (by decide), nU_np (by decide), nU_np (by decide)]; exact h1
  · rw [zU_np (a := 8) (by decide), zU_np (a := 10) (by decide), nU_np (b := 4) (by decide), nU_np (b := 6) (by decide)]
    refine ⟨(h6 a ha).1, ?_, (h6 a ha).2.2⟩
    by_cases q : a = e
    · subst q; rw [zU_eq, nU_eq, hv]
    · rw [zU_nj q, nU_nj q]; exact (h6 a ha).2.1
theorem RD.ch {Y : zY} {S : nY} {e x : Nat} {v : Int32} (h : RD Y S) (hv : v = oI x) : RD (zU Y 10 e v) (nU S 6 e x) := by
  obtain ⟨h1, h6, h7⟩ := h
  refine ⟨?_, fun a ha => ?_, h7.u (by omega) (by omega)⟩
  · rw [zU_np (by decide), zU_np (by decide), zU_np (by decide), zU_np (by decide), zU_np (by decide), nU_np (by decide), nU_np (by decide), nU_np (by decide), nU_np (by decide), nU_np (by decide)]; exact h1
  · rw [zU_np (a := 8) (by decide), zU_np (a := 9) (by decide), nU_np (b := 4) (by decide), nU_np (b := 5) (by decide)]
    refine ⟨(h6 a ha).1, (h6 a ha).2.1, ?_⟩
    by_cases q : a = e
    · subst q; rw [zU_eq, nU_eq, hv]
    · rw [zU_nj q, nU_nj q]; exact (h6 a ha).2.2
/-- a node was put into the Pattern at q, the n-th -/
def PT (Y Z : zY) (q n : Nat) (k a b v : Int32) : Prop := Z q 4 = nI (n + 1) ∧ (∀ x, x ≠ q → x ≠ q + 1 → x ≠ q + 2 → x ≠ q + 3 → x ≠ q + 4 → Z x = Y x) ∧ (n < 24 → Z (q + 1) n = k ∧ Z (q + 2) n = a ∧ Z (q + 3) n = b ∧ Z (q + 4) n = v) ∧ ∀ x, x ≠ n → Z (q + 1) x = Y (q + 1) x ∧ Z (q + 2) x = Y (q + 2) x ∧ Z (q + 3) x = Y (q + 3) x ∧ Z (q + 4) x = Y (q + 4) x
theorem PT.in {Y : zY} {q n : Nat} {k a b v : Int32} : PT Y (zU (zU (zU (zU (zU Y (q + 1) n k) (q + 2) n a) (q + 3) n b) (q + 4) n v) q 4 (nI (n + 1))) q n k a b v := by
  refine ⟨zU_eq, fun x h1 h2 h3 h4 h5 => ?_, fun _ => ?_, fun x hx => ?_⟩
  · rw [zU_row h1, zU_row h5, zU_row h4, zU_row h3, zU_row h2]
  · simp [zU]
  · simp [zU, hx]
theorem PT.out {Y : zY} {q n : Nat} {k a b v : Int32} (h : ¬ n < 24) : PT Y (zU Y q 4 (nI (n + 1))) q n k a b v := by
  refine ⟨zU_eq, fun x h1 h2 h3 h4 h5 => zU_row h1, fun h2 => absurd h2 h, fun x hx => ?_⟩
  simp [zU]
theorem RD.put {Y Z : zY} {S : nY} {k l r : Nat} {k9 a b v : Int32} (h : RD Y S) (p : PT Y Z 3 (S 0 2) k9 a b v) (hk : k9 = nI (km k)) (ha : a = if k = 0 then -1 else nI l) (hb : b = if k = 1 ∨ k = 2 then nI r else -1) (hv : v = nI (if k = 0 then l else if k = 6 then r else 0)) : RD Z (sPut S k l r) := by
  obtain ⟨h1, h6, h7⟩ := h
  obtain ⟨p1, p2, p3, p4⟩ := p
  have e2 : Z 2 = Y 2 := p2 2 (by decide) (by decide) (by decide) (by decide) (by decide)
  have e8 : Z 8 = Y 8 := p2 8 (by decide) (by decide) (by decide) (by decide) (by decide)
  have e9 : Z 9 = Y 9 := p2 9 (by decide) (by decide) (by decide) (by decide) (by decide)
  have e10 : Z 10 = Y 10 := p2 10 (by decide) (by decide) (by decide) (by decide) (by decide)
  refine ⟨?_, ?_, ?_, ?_⟩
  · rw [e2, sPut_0 (by decide), sPut_0 (by decide), sPut_0 (by decide), sPut_0 (by decide), sPut_0 (by decide)]; exact h1
  · rw [e8, e9, e10]
    intro e he
    rw [sPut_4 (by decide), sPut_4 (by decide), sPut_4 (by decide)]; exact h6 e he
  · rw [sPut_n]; exact p1
  · intro n hn hn2
    rw [sPut_n] at hn
    by_cases q : n = S 0 2
    · subst q
      obtain ⟨g1, g2, g3, g4⟩ := p3 hn2
      have s1 : sPut S k l r 1 (S 0 2) = k := by simp [sPut, nU]
      have s2 : sPut S k l r 2 (S 0 2) = l := by simp [sPut, nU]
      have s3 : sPut S k l r 3 (S 0 2) = r := by simp [sPut, nU]
      rw [s1, s2, s3]
      exact ⟨g1.trans hk, g2.trans ha, g3.trans hb, g4.trans hv⟩
    · obtain ⟨g1, g2, g3, g4⟩ := p4 n q
      have s1 : sPut S k l r 1 n = S 1 n := by simp [sPut, nU, q]
      have s2 : sPut S k l r 2 n = S 2 n := by simp [sPut, nU, q]
      have s3 : sPut S k l r 3 n = S 3 n := by simp [sPut, nU, q]
      rw [s1, s2, s3]
      obtain ⟨f1, f2, f3, f4⟩ := h7.2 n (by omega) hn2
      exact ⟨g1.trans f1, g2.trans f2, g3.trans f3, g4.trans f4⟩
theorem KR.pt {X Y Z : zY} {n : Nat} {k a b v : Int32} (h : KR X Y) (p : PT Y Z 3 n k a b v) : KR X Z := fun q hq => (p.2.1 q (by omega) (by omega) (by omega) (by omega) (by omega)).trans (h q hq)
/-- the second digit of a limit -/
theorem RD.va {Y : zY} {S : nY} {n x : Nat} (h : RD Y S) (hk : S 1 n = 6) : RD (zU Y 7 n (nI x)) (nU S 3 n x) := by
  obtain ⟨h1, h6, h7, h8⟩ := h
  refine ⟨?_, fun a ha => ?_, ?_, fun m hm hm2 => ?_⟩
  · rw [zU_np (by decide), zU_np (by decide), zU_np (by decide), zU_np (by decide), zU_np (by decide), nU_np (by decide), nU_np (by decide), nU_np (by decide), nU_np (by decide), nU_np (by decide)]; exact h1
  · rw [zU_np (by decide), zU_np (by decide), zU_np (by decide), nU_np (by decide), nU_np (by decide), nU_np (by decide)]; exact h6 a ha
  · rw [zU_np (by decide), nU_np (by decide)]; exact h7
  · rw [nU_np (by decide)] at hm
    obtain ⟨f1, f2, f3, f4⟩ := h8 m hm hm2
    rw [zU_np (a := 4) (by decide), zU_np (a := 5) (by decide), zU_np (a := 6) (by decide), nU_np (b := 1) (by decide), nU_np (b := 2) (by decide)]
    by_cases q : m = n
    · subst q
      rw [zU_eq, nU_eq]
      refine ⟨f1, f2, ?_, ?_⟩
      · rw [if_neg (by omega)] at f3 ⊢; exact f3
      · rw [if_neg (by omega), if_pos hk]
    · rw [zU_nj q, nU_nj q]; exact ⟨f1, f2, f3, f4⟩
theorem RD.vo {Y : zY} {S : nY} {n x : Nat} (h : RD Y S) (hk : 24 ≤ n) : RD Y (nU S 3 n x) := by
  obtain ⟨h1, h6, h7, h8⟩ := h
  refine ⟨?_, fun a ha => ?_, ?_, fun m hm hm2 => ?_⟩
  · rw [nU_np (by decide), nU_np (by decide), nU_np (by decide), nU_np (by decide), nU_np (by decide)]; exact h1
  · rw [nU_np (by decide), nU_np (by decide), nU_np (by decide)]; exact h6 a ha
  · rw [nU_np (by decide)]; exact h7
  · rw [nU_np (by decide)] at hm
    rw [nU_np (b := 1) (by decide), nU_np (b := 2) (by decide), nU_nj (by omega)]
    exact h8 m hm hm2
/-- bounds -/
def RB (nb : Nat) (S : nY) : Prop := S 0 1 ≤ 6 ∧ S 0 2 ≤ nb ∧ S 0 3 < 2 ^ 26 ∧ S 0 4 ≤ 1 ∧ S 0 5 ≤ 9 ∧ ∀ e, S 4 e ≤ 200 ∧ S 5 e ≤ 200 ∧ S 6 e ≤ 200
theorem RB.put {nb : Nat} {S : nY} {k l r : Nat} (h : RB nb S) : RB (nb + 1) (sPut S k l r) := by
  obtain ⟨h1, h2, h3, h4, h5, h6⟩ := h
  refine ⟨?_, ?_, ?_, ?_, ?_, fun e => ?_⟩
  · rw [sPut_0 (by decide)]; exact h1
  · rw [sPut_n]; omega
  · rw [sPut_0 (by decide)]; exact h3
  · rw [sPut_0 (by decide)]; exact h4
  · rw [sPut_0 (by decide)]; exact h5
  · rw [sPut_4 (by decide), sPut_4 (by decide), sPut_4 (by decide)]; have := h6 e; omega
theorem RB.st {nb : Nat} {S : nY} {a e x : Nat} (h : RB nb S) (ha : 4 ≤ a) (hx : x ≤ 200) : RB nb (nU S a e x) := by
  obtain ⟨h1, h2, h3, h4, h5, h6⟩ := h
  refine ⟨?_, ?_, ?_, ?_, ?_, fun i => ?_⟩
  · rw [nU_np (by omega)]; exact h1
  · rw [nU_np (by omega)]; exact h2
  · rw [nU_np (by omega)]; exact h3
  · rw [nU_np (by omega)]; exact h4
  · rw [nU_np (by omega)]; exact h5
  · have := h6 i
    unfold nU
    refine ⟨?_, ?_, ?_⟩ <;> (split <;> (try split) <;> omega)
theorem RB.s0 {nb : Nat} {S : nY} {x : Nat} (h : RB nb S) : RB nb (nU S 0 0 x) := by
  obtain ⟨h1, h2, h3, h4, h5, h6⟩ := h
  exact ⟨by rw [nU_nj (by decide)]; exact h1, by rw [nU_nj (by decide)]; exact h2, by rw [nU_nj (by decide)]; exact h3, by rw [nU_nj (by decide)]; exact h4, by rw [nU_nj (by decide)]; exact h5, fun e => by rw [nU_np (by decide), nU_np (by decide), nU_np (by decide)]; exact h6 e⟩
theorem RB.mono {nb nc : Nat} {S : nY} (h : RB nb S) (hn : nb ≤ nc) : RB nc S := ⟨h.1, by have := h.2.1; omega, h.2.2.1, h.2.2.2.1, h.2.2.2.2.1, fun e => by have := h.2.2.2.2.2 e; omega⟩
theorem RB.item {nb : Nat} {S : nY} (h : RB nb S) (hn : nb ≤ 190) : RB (nb + 1) (sItem S) := by
  have h2 := h.2.1
  unfold sItem; split
  · exact (h.mono (by omega)).st (by decide) (by have := (h.2.2.2.2.2 (S 0 1)).1; omega)
  · exact h.put.st (by decide) (by omega)
theorem RB.row {nb : Nat} {S : nY} (h : RB nb S) (hn : nb ≤ 190) : RB (nb + 1) (sRow S) := by
  have h2 := h.2.1
  unfold sRow; split
  · exact ((h.mono (by omega)).st (by decide) (by have := (h.2.2.2.2.2 (S 0 1)).2.1; omega)).st (by decide) (by omega)
  · exact (h.put.st (by decide) (by omega)).st (by decide) (by omega)
theorem sItem_5 {S : nY} (h : 1 ≤ S 4 (S 0 1)) : 1 ≤ sItem S 5 (S 0 1) := by
  unfold sItem; split
  · rw [nU_eq]; exact h
  · rw [nU_eq]; omega
def atP (c d : Nat) : Prop := (97 ≤ c ∧ c ≤ 122) ∨ c = 46 ∨ c = 91 ∨ (c = 40 ∧ d < 6)
theorem nx_0 {c d : Nat} : nx 0 c d = none ↔ ¬ atP c d := by
  unfold nx atP
  repeat' split
  all_goals (simp; try omega)
theorem nx_1 {s c d : Nat} (h : s = 1 ∨ (s = 6 ∧ ¬ (48 ≤ c ∧ c ≤ 57))) : nx s c d = none ↔ ¬ (c = 42 ∨ c = 43 ∨ c = 63 ∨ c = 60 ∨ c = 124 ∨ (c = 41 ∧ 0 < d) ∨ atP c d) := by
  unfold nx atP
  repeat' split
  all_goals (simp; try omega)
theorem nx_5 {c d : Nat} : nx 5 c d = none ↔ ¬ (48 ≤ c ∧ c ≤ 57) := by
  unfold nx
  repeat' split
  all_goals (simp; try omega)
theorem nx_6 {c d : Nat} (h : 48 ≤ c ∧ c ≤ 57) : nx 6 c d ≠ none := by
  unfold nx
  repeat' split
  all_goals (simp; try omega)
theorem nx_2 {c d : Nat} : nx 2 c d = none ↔ ¬ ((97 ≤ c ∧ c ≤ 122) ∨ c = 94) := by
  unfold nx
  repeat' split
  all_goals (simp; try omega)
theorem nx_3 {c d : Nat} : nx 3 c d = none ↔ ¬ (97 ≤ c ∧ c ≤ 122) := by
  unfold nx
  repeat' split
  all_goals (simp; try omega)
theorem nx_4 {c d : Nat} : nx 4 c d = none ↔ ¬ ((97 ≤ c ∧ c ≤ 122) ∨ c = 93) := by
  unfold nx
  repeat' split
  all_goals (simp; try omega)
def zPP (q : Nat) : Prop := q + 4 < 117 ∧ zk q = 2 ∧ (zk (q + 1) = 8 ∧ zk (q + 2) = 8 ∧ zk (q + 3) = 8 ∧ zk (q + 4) = 8) ∧ (zl (q + 1) = 24 ∧ zl (q + 2) = 24 ∧ zl (q + 3) = 24 ∧ zl (q + 4) = 24)
theorem zPP_3 : zPP 3 := by unfold zPP; decide +kernel
theorem zPP_11 : zPP 11 := by unfold zPP; decide +kernel
theorem zshl {k : Nat} (h : k < 31) : (nI 1) <<< ((nI k) &&& 31) = nI (2 ^ k) := by
  have e1 : (nI k) &&& 31 = nI k := by
    rw [pk_andN (n := k) (by omega) (m := 31) 5 (by decide), Nat.mod_eq_of_lt (by omega)]
  have h2 : 2 ^ k < 2 ^ 32 := Nat.pow_lt_pow_right (by decide) (by omega)
  rw [e1, pk_shlN (n := 1) (nI k) k (zs31 k h) (by omega), Nat.one_mul]
theorem zor {a b : Nat} (ha : a < 2 ^ 26) (hb : b < 2 ^ 26) : (nI a) ||| (nI b) = nI (a ||| b) := by
  have h := Nat.or_lt_two_pow ha hb
  apply Int32.toBitVec_inj.mp
  apply BitVec.eq_of_toNat_eq
  rw [Int32.toBitVec_or, BitVec.toNat_or, pk_tn (by omega), pk_tn (by omega), pk_tn (by omega)]
theorem cmask_lt (x : Nat) : cmask x < 2 ^ 26 := by
  unfold cmask
  rw [Int32.and_comm]
  obtain ⟨j, h1, h2⟩ := pk_andE (nI x ^^^ (-1)) (m := nI 67108863) 26 (by decide)
  rw [h2, pk_tn (by omega)]; exact h1
theorem cmask_eq (x : Nat) : (nI 67108863) &&& ((nI x) ^^^ (-1)) = nI (cmask x) := by
  obtain ⟨j, h1, h2⟩ := pk_andE (nI x ^^^ (-1)) (m := nI 67108863) 26 (by decide)
  have h3 : cmask x = j := by unfold cmask; rw [Int32.and_comm, h2, pk_tn (by omega)]
  rw [h3, ← h2, Int32.and_comm]
