/-! ===== the reading of an expression, as numbers =====
row 0: state, depth, count, set letters, set of others, limit; 1, 2, 3: kinds, lefts, rights (as the reference numbers them); 4, 5, 6: items, rows, choices by depth, plus 1 (0: none) -/
abbrev nY : Type := Nat → Nat → Nat
def nU (S : nY) (a j v : Nat) : nY := fun b k => if b = a then (if k = j then v else S b k) else S b k
theorem nU_eq {S : nY} {a j v : Nat} : nU S a j v a j = v := by simp [nU]
theorem nU_np {S : nY} {a j b k v : Nat} (h : b ≠ a) : nU S a j v b k = S b k := by simp [nU, h]
theorem nU_nj {S : nY} {a j b k v : Nat} (h : k ≠ j) : nU S a j v b k = S b k := by unfold nU; split <;> simp [h]
def sPut (S : nY) (k l r : Nat) : nY := nU (nU (nU (nU S 1 (S 0 2) k) 2 (S 0 2) l) 3 (S 0 2) r) 0 2 (S 0 2 + 1)
def sAtom (S : nY) (m : Nat) : nY := nU (nU (sPut S 0 m 0) 4 (S 0 1) (S 0 2 + 1)) 0 0 1
def sSuf (S : nY) (k v : Nat) : nY := nU (nU (sPut S k (S 4 (S 0 1) - 1) v) 4 (S 0 1) (S 0 2 + 1)) 0 0 1
def sItem (S : nY) : nY := if S 5 (S 0 1) = 0 then nU S 5 (S 0 1) (S 4 (S 0 1)) else nU (sPut S 1 (S 5 (S 0 1) - 1) (S 4 (S 0 1) - 1)) 5 (S 0 1) (S 0 2 + 1)
def sRow (S : nY) : nY := if S 6 (S 0 1) = 0 then nU (nU S 6 (S 0 1) (S 5 (S 0 1))) 5 (S 0 1) 0 else nU (nU (sPut S 2 (S 6 (S 0 1) - 1) (S 5 (S 0 1) - 1)) 6 (S 0 1) (S 0 2 + 1)) 5 (S 0 1) 0
def sBeg (S : nY) : nY := nU (nU (nU (nU S 4 (S 0 1) 0) 5 (S 0 1) 0) 6 (S 0 1) 0) 0 0 0
def sOpen (S : nY) : nY := sBeg (nU S 0 1 (S 0 1 + 1))
def sClo (T : nY) : nY := nU (nU (nU T 0 1 (T 0 1 - 1)) 4 (T 0 1 - 1) (T 6 (T 0 1))) 0 0 1
def sClose (S : nY) : nY := sClo (sRow S)
def isL (c : Nat) : Prop := 97 ≤ c ∧ c ≤ 122
def isD (c : Nat) : Prop := 48 ≤ c ∧ c ≤ 57
def sAt (S : nY) (c : Nat) : nY := if 97 ≤ c ∧ c ≤ 122 then sAtom S (2 ^ (c - 97)) else if c = 46 then sAtom S 67108863 else if c = 91 then nU (nU (nU S 0 3 0) 0 4 0) 0 0 2 else sOpen S
def sAft (S : nY) (c : Nat) : nY := if c = 124 then nU (sRow (sItem S)) 0 0 0 else if c = 41 then sClose (sItem S) else sAt (sItem S) c
def sSufx (S : nY) (c : Nat) : nY := if c = 42 then sSuf S 3 0 else if c = 43 then sSuf S 4 0 else if c = 63 then sSuf S 5 0 else if c = 60 then nU S 0 0 5 else sAft S c
def cmask (x : Nat) : Nat := (nI 67108863 &&& (nI x ^^^ (-1))).toBitVec.toNat
def sSet (S : nY) (c : Nat) : nY := if 97 ≤ c ∧ c ≤ 122 then nU (nU S 0 3 (S 0 3 ||| 2 ^ (c - 97))) 0 0 4 else if c = 94 then nU (nU S 0 4 1) 0 0 3 else sAtom S (if S 0 4 = 0 then S 0 3 else cmask (S 0 3))
def sAct (S : nY) (c : Nat) : nY :=
  if S 0 0 = 2 ∨ S 0 0 = 3 ∨ S 0 0 = 4 then sSet S c
  else if S 0 0 = 5 then nU (sSuf (nU S 0 5 (c - 48)) 6 (c - 48)) 0 0 6
  else if S 0 0 = 6 ∧ 48 ≤ c ∧ c ≤ 57 then nU (nU S 3 (S 4 (S 0 1) - 1) (S 0 5 * 10 + (c - 48))) 0 0 1
  else if S 0 0 = 0 then sAt S c else sSufx S c
def sTake (S : nY) (c : Nat) : Option nY := if nx (S 0 0) c (S 0 1) = none then none else some (sAct S c)
def sRun (S0 : nY) (ch : Nat → Nat) : Nat → Option nY
  | 0 => some S0
  | k + 1 => (sRun S0 ch k).bind (fun S => sTake S (ch k))
def okS (S : nY) : Prop := S 0 1 = 0 ∧ (S 0 0 = 1 ∨ S 0 0 = 6)
/-- the fault of n characters -/
def fltR (S0 : nY) (ch : Nat → Nat) (n : Nat) (r : Int32) : Prop := (∃ k S, k < n ∧ sRun S0 ch k = some S ∧ sTake S (ch k) = none ∧ r = nI k) ∨ (∃ S, sRun S0 ch n = some S ∧ ¬ okS S ∧ r = nI n) ∨ (∃ S, sRun S0 ch n = some S ∧ okS S ∧ r = -1)
theorem sRun_cut {S0 : nY} {ch : Nat → Nat} {k : Nat} : ∀ n, k ≤ n → sRun S0 ch n ≠ none → sRun S0 ch k ≠ none := by
  intro n h
  induction n with
  | zero => have : k = 0 := by omega
            subst this; exact id
  | succ n ih =>
    by_cases e : k = n + 1
    · subst e; exact id
    · intro h2
      refine ih (by omega) (fun z => h2 ?_)
      show (sRun S0 ch n).bind _ = none
      rw [z]; rfl
theorem sRun_no {S0 : nY} {ch : Nat → Nat} {k n : Nat} {S : nY} (h : sRun S0 ch k = some S) (h2 : sTake S (ch k) = none) (hk : k < n) : sRun S0 ch n = none := by
  have h3 : sRun S0 ch (k + 1) = none := by
    show (sRun S0 ch k).bind _ = none
    rw [h]; exact h2
  cases hn : sRun S0 ch n with
  | none => rfl
  | some T => exact absurd h3 (sRun_cut n hk (by rw [hn]; exact fun z => by cases z))
theorem fltR_one {S0 : nY} {ch : Nat → Nat} {n : Nat} {r q : Int32} (h : fltR S0 ch n r) (g : fltR S0 ch n q) : r = q := by
  rcases h with ⟨k, S, h1, h2, h3, h4⟩ | ⟨S, h1, h2, h3⟩ | ⟨S, h1, h2, h3⟩
  · rcases g with ⟨j, T, g1, g2, g3, g4⟩ | ⟨T, g1, -, -⟩ | ⟨T, g1, -, -⟩
    · have e : k = j := by
        rcases Nat.lt_trichotomy k j with e | e | e
        · have := sRun_no h2 h3 e; rw [this] at g2; cases g2
        · exact e
        · have := sRun_no g2 g3 e; rw [this] at h2; cases h2
      rw [h4, g4, e]
    · rw [sRun_no h2 h3 h1] at g1; cases g1
    · rw [sRun_no h2 h3 h1] at g1; cases g1
  · rcases g with ⟨j, T, g1, g2, g3, g4⟩ | ⟨T, g1, g2, g3⟩ | ⟨T, g1, g2, g3⟩
    · rw [sRun_no g2 g3 g1] at h1; cases h1
    · rw [h3, g3]
    · rw [h1] at g1; cases g1; exact absurd g2 h2
  · rcases g with ⟨j, T, g1, g2, g3, g4⟩ | ⟨T, g1, g2, g3⟩ | ⟨T, g1, g2, g3⟩
    · rw [sRun_no g2 g3 g1] at h1; cases h1
    · rw [h1] at g1; cases g1; exact absurd h2 g2
    · rw [h3, g3]
theorem sRun_s {S0 : nY} {ch : Nat → Nat} {k : Nat} {S : nY} (h : sRun S0 ch k = some S) (h2 : nx (S 0 0) (ch k) (S 0 1) ≠ none) : sRun S0 ch (k + 1) = some (sAct S (ch k)) := by
  show (sRun S0 ch k).bind _ = _
  rw [h]
  show sTake S (ch k) = _
  unfold sTake; rw [if_neg h2]
/-- the next state and depth, as nx says -/
def nd (s c d : Nat) : Nat := if s < 2 ∨ 4 < s then (if c = 40 then d + 1 else if c = 41 then d - 1 else d) else d
theorem sPut_0 {S : nY} {k l r j : Nat} (h : j ≠ 2) : sPut S k l r 0 j = S 0 j := by unfold sPut; rw [nU_nj h, nU_np (by decide), nU_np (by decide), nU_np (by decide)]
theorem sPut_4 {S : nY} {k l r a j : Nat} (h : 4 ≤ a) : sPut S k l r a j = S a j := by unfold sPut; rw [nU_np (by omega), nU_np (by omega), nU_np (by omega), nU_np (by omega)]
theorem sPut_n {S : nY} {k l r : Nat} : sPut S k l r 0 2 = S 0 2 + 1 := by unfold sPut; exact nU_eq
theorem sItem_d {S : nY} {j : Nat} (h : j ≠ 2) : sItem S 0 j = S 0 j := by
  unfold sItem; split
  · exact nU_np (by decide)
  · rw [nU_np (by decide), sPut_0 h]
theorem sRow_d {S : nY} {j : Nat} (h : j ≠ 2) : sRow S 0 j = S 0 j := by
  unfold sRow; split
  · rw [nU_np (by decide), nU_np (by decide)]
  · rw [nU_np (by decide), nU_np (by decide), sPut_0 h]
theorem sAtom_s {S : nY} {m : Nat} : sAtom S m 0 0 = 1 ∧ sAtom S m 0 1 = S 0 1 := ⟨nU_eq, by unfold sAtom; rw [nU_nj (by decide), nU_np (by decide), sPut_0 (by decide)]⟩
theorem sSuf_s {S : nY} {k v : Nat} : sSuf S k v 0 0 = 1 ∧ sSuf S k v 0 1 = S 0 1 := ⟨nU_eq, by unfold sSuf; rw [nU_nj (by decide), nU_np (by decide), sPut_0 (by decide)]⟩
theorem sOpen_s {S : nY} : sOpen S 0 0 = 0 ∧ sOpen S 0 1 = S 0 1 + 1 := ⟨by unfold sOpen sBeg; exact nU_eq, by unfold sOpen sBeg; rw [nU_nj (by decide), nU_np (by decide), nU_np (by decide), nU_np (by decide), nU_eq]⟩
theorem sClose_s {S : nY} : sClose S 0 0 = 1 ∧ sClose S 0 1 = S 0 1 - 1 := ⟨by unfold sClose sClo; exact nU_eq, by unfold sClose sClo; rw [nU_nj (by decide), nU_np (by decide), nU_eq, sRow_d (by decide)]⟩
theorem sAt_s {S : nY} {c t : Nat} {s d : Nat} (hs : s = 0 ∨ s = 1 ∨ (s = 6 ∧ ¬ (48 ≤ c ∧ c ≤ 57))) (hc : c ≠ 42 ∧ c ≠ 43 ∧ c ≠ 63 ∧ c ≠ 60 ∧ c ≠ 124 ∧ c ≠ 41) (h : nx s c d = some t) (hd : S 0 1 = d) : sAt S c 0 0 = t ∧ sAt S c 0 1 = nd s c d := by
  have hn : nd s c d = if c = 40 then d + 1 else d := by unfold nd; rw [if_pos (by omega)]; by_cases e : c = 40; rw [if_pos e, if_pos e]; rw [if_neg e, if_neg e, if_neg (by omega)]
  rw [hn]
  unfold nx at h
  rw [if_neg (by omega), if_neg (by omega), if_neg (by omega)] at h
  unfold sAt
  by_cases h1 : 97 ≤ c ∧ c ≤ 122
  · rw [if_pos (Or.inl h1)] at h; cases h
    rw [if_pos h1, if_neg (show ¬ c = 40 by omega), ← hd]; exact sAtom_s
  rw [if_neg h1]
  by_cases h2 : c = 46
  · rw [if_pos (Or.inr h2)] at h; cases h
    rw [if_pos h2, if_neg (show ¬ c = 40 by omega), ← hd]; exact sAtom_s
  rw [if_neg h2]
  rw [if_neg (by omega)] at h
  by_cases h3 : c = 91
  · rw [if_pos h3] at h; cases h
    rw [if_pos h3, if_neg (show ¬ c = 40 by omega)]
    exact ⟨nU_eq, by rw [nU_nj (by decide), nU_nj (by decide), nU_nj (by decide), hd]⟩
  rw [if_neg h3] at h ⊢
  by_cases h4 : c = 40
  · rw [if_pos h4] at h
    split at h
    · cases h
      rw [if_pos h4, ← hd]; exact sOpen_s
    · cases h
  · rw [if_neg h4] at h
    exfalso
    split at h
    · cases h
    · rw [if_neg (by omega), if_neg (by omega), if_neg (by omega), if_neg (by omega)] at h; cases h
theorem sAct_s {S : nY} {c t : Nat} (h : nx (S 0 0) c (S 0 1) = some t) (hs : S 0 0 ≤ 6) : sAct S c 0 0 = t ∧ sAct S c 0 1 = nd (S 0 0) c (S 0 1) := by
  unfold sAct
  by_cases h1 : S 0 0 = 2 ∨ S 0 0 = 3 ∨ S 0 0 = 4
  · have hn : nd (S 0 0) c (S 0 1) = S 0 1 := by unfold nd; rw [if_neg (by omega)]
    rw [if_pos h1, hn]
    unfold nx at h; rw [if_pos h1] at h
    unfold sSet
    by_cases h2 : 97 ≤ c ∧ c ≤ 122
    · rw [if_pos h2] at h ⊢; cases h
      exact ⟨nU_eq, by rw [nU_nj (by decide), nU_nj (by decide)]⟩
    rw [if_neg h2] at h ⊢
    by_cases h3 : c = 94
    · rw [if_pos h3]
      split at h
      · cases h; exact ⟨nU_eq, by rw [nU_nj (by decide), nU_nj (by decide)]⟩
      · rw [if_neg (by omega)] at h; cases h
    · rw [if_neg h3]
      rw [if_neg (by omega)] at h
      split at h
      · cases h; exact sAtom_s
      · cases h
  rw [if_neg h1]
  by_cases h2 : S 0 0 = 5
  · rw [if_pos h2]
    unfold nx at h; rw [if_neg h1, if_pos h2] at h
    split at h
    · cases h
      have hn : nd (S 0 0) c (S 0 1) = S 0 1 := by unfold nd; rw [if_pos (by omega), if_neg (by omega), if_neg (by omega)]
      rw [hn]
      exact ⟨nU_eq, by rw [nU_nj (by decide), sSuf_s.2, nU_nj (by decide)]⟩
    · cases h
  rw [if_neg h2]
  by_cases h3 : S 0 0 = 6 ∧ 48 ≤ c ∧ c ≤ 57
  · rw [if_pos h3]
    unfold nx at h; rw [if_neg h1, if_neg h2, if_pos h3] at h; cases h
    have hn : nd (S 0 0) c (S 0 1) = S 0 1 := by unfold nd; rw [if_pos (by omega), if_neg (by omega), if_neg (by omega)]
    rw [hn]
    exact ⟨nU_eq, by rw [nU_nj (by decide), nU_np (by decide)]⟩
  rw [if_neg h3]
  by_cases h4 : S 0 0 = 0
  · rw [if_pos h4]
    refine sAt_s (Or.inl h4) ?_ h rfl
    unfold nx at h
    rw [if_neg h1, if_neg h2, if_neg h3] at h
    refine ⟨?_, ?_, ?_, ?_, ?_, ?_⟩ <;> (intro e; subst e; simp [h4] at h)
  rw [if_neg h4]
  unfold sSufx
  have hx : ∀ c', c' = c → (c' = 42 ∨ c' = 43 ∨ c' = 63) → t = 1 ∧ nd (S 0 0) c (S 0 1) = S 0 1 := by
    intro c' e hc; subst e
    unfold nx at h
    rw [if_neg h1, if_neg h2, if_neg h3, if_neg (by omega), if_neg (by omega), if_neg (by omega), if_neg h4, if_pos hc] at h
    cases h
    exact ⟨rfl, by unfold nd; rw [if_pos (by omega), if_neg (by omega), if_neg (by omega)]⟩
  by_cases q1 : c = 42
  · rw [if_pos q1]; obtain ⟨e1, e2⟩ := hx c rfl (Or.inl q1); rw [e1, e2]; exact sSuf_s
  rw [if_neg q1]
  by_cases q2 : c = 43
  · rw [if_pos q2]; obtain ⟨e1, e2⟩ := hx c rfl (Or.inr (Or.inl q2)); rw [e1, e2]; exact sSuf_s
  rw [if_neg q2]
  by_cases q3 : c = 63
  · rw [if_pos q3]; obtain ⟨e1, e2⟩ := hx c rfl (Or.inr (Or.inr q3)); rw [e1, e2]; exact sSuf_s
  rw [if_neg q3]
  by_cases q4 : c = 60
  · rw [if_pos q4]
    unfold nx at h
    rw [if_neg h1, if_neg h2, if_neg h3, if_neg (by omega), if_neg (by omega), if_neg (by omega), if_neg h4, if_neg (by omega), if_pos q4] at h
    cases h
    exact ⟨nU_eq, by rw [nU_nj (by decide)]; unfold nd; rw [if_pos (by omega), if_neg (by omega), if_neg (by omega)]⟩
  rw [if_neg q4]
  unfold sAft
  by_cases q5 : c = 124
  · rw [if_pos q5]
    unfold nx at h
    rw [if_neg h1, if_neg h2, if_neg h3, if_neg (by omega), if_neg (by omega), if_neg (by omega), if_neg h4, if_neg (by omega), if_neg q4, if_pos q5] at h
    cases h
    exact ⟨nU_eq, by rw [nU_nj (by decide), sRow_d (by decide), sItem_d (by decide)]; unfold nd; rw [if_pos (by omega), if_neg (by omega), if_neg (by omega)]⟩
  rw [if_neg q5]
  by_cases q6 : c = 41
  · rw [if_pos q6]
    unfold nx at h
    rw [if_neg h1, if_neg h2, if_neg h3, if_neg (by omega), if_neg (by omega), if_neg (by omega), if_neg h4, if_neg (by omega), if_neg q4, if_neg q5] at h
    split at h
    · cases h
      refine ⟨sClose_s.1, ?_⟩
      rw [sClose_s.2, sItem_d (by decide)]; unfold nd; rw [if_pos (by omega), if_neg (by omega), if_pos q6]
    · cases h
  rw [if_neg q6]
  exact sAt_s (s := S 0 0) (by omega) ⟨q1, q2, q3, q4, q5, q6⟩ h (sItem_d (by decide))
theorem nx_le {s c d t : Nat} (h : nx s c d = some t) : t ≤ 6 := by
  unfold nx at h
  repeat' split at h
  all_goals first | (cases h; omega) | cases h
