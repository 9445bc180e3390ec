/-! ===== costs look at the letters of their piece alone ===== -/
theorem cFit_tx {st : Nat} {tx ty : Nat → Nat} {i : Nat} : ∀ n, (∀ p, i ≤ p → p < i + n → ty p = tx p) → cFit st ty i n = cFit st tx i n
  | 0, _ => rfl
  | n + 1, h => by simp only [cFit]; rw [cFit_tx n (fun p a b => h p a (by omega)), h (i + n) (by omega) (by omega)]
theorem cSet_tx {st : Nat} {tx ty : Nat → Nat} {ad mi wr i j : Nat} (h : ∀ p, i ≤ p → p < j → ty p = tx p) : cSet st ty ad mi wr i j = cSet st tx ad mi wr i j := by
  unfold cSet; rw [cFit_tx (j - i) (fun p a b => h p a (by omega))]
/-- two tables are alike up to the column J -/
def tEq (J : Nat) (x y : Nat → Nat → Nat) : Prop := ∀ i j, i ≤ j → j ≤ J → x i j = y i j
theorem cRow_tx {J : Nat} {f g f2 g2 : Nat → Nat → Nat} (hf : tEq J f f2) (hg : tEq J g g2) {i j : Nat} (hj : j ≤ J) : ∀ n, i + n ≤ j + 1 → cRow f g i j n = cRow f2 g2 i j n
  | 0, _ => rfl
  | n + 1, h => by simp only [cRow]; rw [cRow_tx hf hg hj n (by omega), hf i (i + n) (by omega) (by omega), hg (i + n) j (by omega) hj]
theorem cPlv_tx {J : Nat} {f x f2 x2 : Nat → Nat → Nat} (hf : tEq J f f2) (hx : tEq J x x2) {i j : Nat} (hij : i ≤ j) (hj : j ≤ J) : ∀ n, i + n ≤ j → cPlv f x i j n = cPlv f2 x2 i j n
  | 0, _ => hx i j hij hj
  | n + 1, h => by simp only [cPlv]; rw [cPlv_tx hf hx hij hj n (by omega), hf i (i + 1 + n) (by omega) (by omega), hx (i + 1 + n) j (by omega) hj]
theorem cPlt_tx {J : Nat} {x x2 : Nat → Nat → Nat} (hx : tEq J x x2) : ∀ m, tEq J (cPlt x m) (cPlt x2 m)
  | 0, _, _, _, _ => rfl
  | m + 1, i, j, h1, h2 => by
    show (if j - i = m then cPlv (cPlt x m) x i j (m - 1) else cPlt x m i j) = (if j - i = m then cPlv (cPlt x2 m) x2 i j (m - 1) else cPlt x2 m i j)
    by_cases e : j - i = m
    · rw [if_pos e, if_pos e]; exact cPlv_tx (cPlt_tx hx m) hx h1 h2 _ (by omega)
    · rw [if_neg e, if_neg e]; exact cPlt_tx hx m i j h1 h2
theorem cPl_tx {J : Nat} {x x2 : Nat → Nat → Nat} (hx : tEq J x x2) : tEq J (cPl x) (cPl x2) := fun i j h1 h2 => cPlt_tx hx _ i j h1 h2
theorem cNode_tx {J : Nat} {kd lf rt tx ty : Nat → Nat} {ad mi wr : Nat} {T U : Nat → Nat → Nat → Nat} (h : ∀ p, p < J → ty p = tx p) (hT : ∀ k, tEq J (T k) (U k)) (n : Nat) : tEq J (cNode kd lf rt ty ad mi wr T n) (cNode kd lf rt tx ad mi wr U n) := fun i j h1 h2 => by
  unfold cNode
  rw [cSet_tx (fun p a b => h p (by omega)), cRow_tx (hT (lf n)) (hT (rt n)) h2 _ (by omega), hT (lf n) i j h1 h2, hT (rt n) i j h1 h2, cPl_tx (hT (lf n)) i j h1 h2]
theorem cTab_tx {J : Nat} {kd lf rt tx ty : Nat → Nat} {ad mi wr : Nat} (h : ∀ p, p < J → ty p = tx p) : ∀ n k, tEq J (cTab kd lf rt ty ad mi wr n k) (cTab kd lf rt tx ad mi wr n k)
  | 0, _, _, _, _, _ => rfl
  | n + 1, k, i, j, h1, h2 => by
    show (if k = n then cStar kd ad (cNode kd lf rt ty ad mi wr (cTab kd lf rt ty ad mi wr n) n i j) n i j else cTab kd lf rt ty ad mi wr n k i j) = (if k = n then cStar kd ad (cNode kd lf rt tx ad mi wr (cTab kd lf rt tx ad mi wr n) n i j) n i j else cTab kd lf rt tx ad mi wr n k i j)
    rw [cNode_tx h (fun q => cTab_tx h n q) n i j h1 h2, cTab_tx h n k i j h1 h2]
theorem cCost_tx {J : Nat} {kd lf rt tx ty : Nat → Nat} {ad mi wr : Nat} (h : ∀ p, p < J → ty p = tx p) (n : Nat) : tEq J (cCost kd lf rt ty ad mi wr n) (cCost kd lf rt tx ad mi wr n) := fun i j h1 h2 => cTab_tx h (n + 1) n i j h1 h2
/-! ===== answers are one ===== -/
theorem Fnd.one {be : Nat} {K : Nat → Nat → Nat} {bd len nn : Nat} {f t f2 t2 : Int32} (h : Fnd be K bd len nn (len + 1) 0 f t) (g : Fnd be K bd len nn (len + 1) 0 f2 t2) : f = f2 ∧ t = t2 := by
  rcases h with ⟨h1, h2, h3⟩ | ⟨a, b, h1, h2, h3, h4, h5, h6, h7⟩
  · rcases g with ⟨g1, g2, g3⟩ | ⟨c, d, g1, g2, g3, g4, g5, g6, g7⟩
    · exact ⟨h1.trans g1.symm, h2.trans g2.symm⟩
    · exact absurd ⟨g5, g6⟩ (h3 c d g3 g4 (Or.inl (by omega)))
  · rcases g with ⟨g1, g2, g3⟩ | ⟨c, d, g1, g2, g3, g4, g5, g6, g7⟩
    · exact absurd ⟨h5, h6⟩ (g3 a b h3 h4 (Or.inl (by omega)))
    · obtain ⟨e1, e2⟩ := bf_tot (g7 a b h3 h4 (Or.inl (by omega)) ⟨h5, h6⟩) (h7 c d g3 g4 (Or.inl (by omega)) ⟨g5, g6⟩)
      subst e1; subst e2
      exact ⟨h1.trans g1.symm, h2.trans g2.symm⟩
theorem rkP_one {f : Nat → Nat} {nw : Nat} {r x y : Int32} (h : rkP f nw r x) (g : rkP f nw r y) : x = y := by
  rcases h with ⟨w, h1, h2, h3, h4⟩ | ⟨h1, h2⟩
  · rcases g with ⟨v, g1, g2, g3, g4⟩ | ⟨g1, g2⟩
    · rcases Nat.lt_trichotomy w v with e | e | e
      · exact absurd h2 (g3 w e)
      · subst e; exact h4.trans g4.symm
      · exact absurd g2 (h3 v e)
    · exact absurd h2 (g1 w h1)
  · rcases g with ⟨v, g1, g2, g3, g4⟩ | ⟨g1, g2⟩
    · exact absurd g2 (h1 v g1)
    · exact h2.trans g2.symm
/-! ===== what the places hold, and what leaves it ===== -/
def cU (c : Nat → Nat) (n k : Nat) : Nat → Nat := fun j => if j = n then k else c j
def wU (c : Nat → Nat → Nat) (n : Nat) (k : Nat → Nat) : Nat → Nat → Nat := fun j => if j = n then k else c j
/-- what is typed: n characters, in the row q; their number in the field j of p -/
def TY (Y : zY) (p j q n : Nat) (ch : Nat → Nat) : Prop := n ≤ 40 ∧ Y p j = nI n ∧ ∀ k, k < n → Y q k = nI (ch k) ∧ ch k < 65536
theorem TY.cg {Y Z : zY} {p j q n : Nat} {ch : Nat → Nat} (h : TY Y p j q n ch) (e : Z p j = Y p j) (e2 : Z q = Y q) : TY Z p j q n ch := ⟨h.1, e.trans h.2.1, fun k hk => by rw [e2]; exact h.2.2 k hk⟩
theorem TY.nil {Z : zY} {p j q : Nat} {ch : Nat → Nat} (e : Z p j = nI 0) : TY Z p j q 0 ch := ⟨by omega, e, fun k hk => absurd hk (Nat.not_lt_zero _)⟩
theorem TY.put {Y : zY} {p j q n k : Nat} {ch : Nat → Nat} (h : TY Y p j q n ch) (hn : n < 40) (hk : k < 65536) (hq : q ≠ p) : TY (zU (zU Y q n (nI k)) p j (nI (n + 1))) p j q (n + 1) (cU ch n k) := by
  refine ⟨by omega, zU_eq, fun i hi => ?_⟩
  rw [zU_row hq]
  unfold cU
  by_cases e : i = n
  · subst e; rw [zU_eq, if_pos rfl]; exact ⟨rfl, hk⟩
  · rw [zU_nj e, if_neg e]; exact h.2.2 i (by omega)
theorem XC.cg {Y Z : zY} {nn : Nat} {kd lf rt tx : Nat → Nat} {len ad mi wr : Nat} {sz : Nat → Nat} (h : XC Y nn kd lf rt tx len ad mi wr sz) (e : ∀ q, 11 ≤ q → q ≤ 17 → Z q = Y q) (e2 : ∀ k, k = 3 ∨ k = 4 ∨ k = 5 → Z 18 k = Y 18 k) : XC Z nn kd lf rt tx len ad mi wr sz := by
  unfold XC XP at *
  rw [e 11 (by omega) (by omega), e (11 + 1) (by omega) (by omega), e (11 + 2) (by omega) (by omega), e (11 + 3) (by omega) (by omega), e (11 + 4) (by omega) (by omega), e 16 (by omega) (by omega), e 17 (by omega) (by omega), e2 3 (by omega), e2 4 (by omega), e2 5 (by omega)]
  exact h
theorem XT.cg {Y Z : zY} {C : Nat → Nat → Nat → Nat} {nn k : Nat} (h : XT Y C nn k) (hn : nn ≤ 24) (e : Z 18 2 = Y 18 2) (e2 : ∀ q, 20 ≤ q → q ≤ 43 → Z q = Y q) : XT Z C nn k := ⟨e.trans h.1, fun n hn2 i j h1 h2 => (congrFun (e2 (20 + n) (by omega) (by omega)) _).trans (h.2 n hn2 i j h1 h2)⟩
theorem XT.nil {Z : zY} {C : Nat → Nat → Nat → Nat} {nn : Nat} (e : Z 18 2 = nI 0) : XT Z C nn 0 := ⟨e, fun n hn i j h1 h2 => absurd h2 (Nat.not_lt_zero _)⟩
theorem XD.cg {Y Z : zY} {nw : Nat} {sz : Nat → Nat} {lt : Nat → Nat → Nat} {tx : Nat → Nat} {len : Nat} (h : XD Y nw sz lt tx len) (e : Z 45 1 = Y 45 1) (e2 : ∀ q, (q = 16 ∨ q = 17 ∨ (62 ≤ q ∧ q ≤ 101)) → Z q = Y q) : XD Z nw sz lt tx len := by
  have h1 := h.1
  exact ⟨h.1, e.trans h.2.1, fun w hw => ⟨(h.2.2.1 w hw).1.keep (e2 _ (by omega)) (e2 _ (by omega)), (h.2.2.1 w hw).2⟩, h.2.2.2.keep (e2 _ (by omega)) (e2 _ (by omega))⟩
theorem XD.tx {Y Z : zY} {nw : Nat} {sz : Nat → Nat} {lt : Nat → Nat → Nat} {tx ty : Nat → Nat} {len m : Nat} (h : XD Y nw sz lt tx len) (e : Z 45 1 = Y 45 1) (e2 : ∀ q, 62 ≤ q → q ≤ 101 → Z q = Y q) (hL : LT Z 16 m ty) : XD Z nw sz lt ty m := by
  have h1 := h.1
  exact ⟨h.1, e.trans h.2.1, fun w hw => ⟨(h.2.2.1 w hw).1.keep (e2 _ (by omega) (by omega)) (e2 _ (by omega) (by omega)), (h.2.2.1 w hw).2⟩, hL⟩
theorem MC.cg {Y Z : zY} {nn : Nat} {kd lf rt tx : Nat → Nat} {len ad mi wr : Nat} (h : MC Y nn kd lf rt tx len ad mi wr) (e : ∀ k, k = 2 ∨ k = 15 ∨ k = 16 ∨ k = 17 ∨ k = 19 → Z 102 k = Y 102 k) (e2 : ∀ q, (104 ≤ q ∧ q ≤ 106) ∨ q = 112 → Z q = Y q) : MC Z nn kd lf rt tx len ad mi wr := by
  unfold MC at *
  rw [e 2 (by omega), e 15 (by omega), e 16 (by omega), e 17 (by omega), e 19 (by omega), e2 112 (by omega), e2 104 (by omega), e2 105 (by omega), e2 106 (by omega)]
  exact h
theorem MT.cg {Y Z : zY} {C : Nat → Nat → Nat → Nat} {len nn : Nat} (h : MT Y C len nn) (e : Z 102 21 = Y 102 21) (e2 : Z 113 = Y 113) : MT Z C len nn := by
  unfold MT TBn at *
  rw [e, e2]
  exact h
theorem MD.cg {Y Z : zY} {nw : Nat} {sz : Nat → Nat} {lt : Nat → Nat → Nat} {tx : Nat → Nat} {len : Nat} (h : MD Y nw sz lt tx len) (e : ∀ k, k = 19 ∨ k = 25 → Z 102 k = Y 102 k) (e2 : ∀ q, q = 112 ∨ q = 114 ∨ q = 115 → Z q = Y q) : MD Z nw sz lt tx len := by
  unfold MD at *
  rw [e 19 (by omega), e 25 (by omega), e2 112 (by omega), e2 114 (by omega), e2 115 (by omega)]
  exact h
/-- the class's side -/
def IX (Y : zY) (n : Nat) (ch : Nat → Nat) (nn : Nat) (kd lf rt tx : Nat → Nat) (len ad mi wr bd nw : Nat) (wz : Nat → Nat) (wl : Nat → Nat → Nat) (f t : Int32) : Prop :=
  TY Y 0 1 1 n ch ∧ XR Y ∧ (∃ sz, XC Y nn kd lf rt tx len ad mi wr sz) ∧ (∃ kn, kn ≤ len + 1 ∧ XT Y (cCost kd lf rt tx ad mi wr) nn kn) ∧ (bd ≤ 999 ∧ Y 0 7 = nI bd) ∧ (Y 0 8 = f ∧ Y 0 9 = t) ∧ XD Y nw wz wl tx len
/-- the reference's side -/
def IM (Y : zY) (n : Nat) (ch : Nat → Nat) (nn : Nat) (kd lf rt tx : Nat → Nat) (len ad mi wr bd nw : Nat) (wz : Nat → Nat) (wl : Nat → Nat → Nat) (f t : Int32) : Prop :=
  TY Y 102 0 103 n ch ∧ MC Y nn kd lf rt tx len ad mi wr ∧ MT Y (cCost kd lf rt tx ad mi wr) len nn ∧ (bd ≤ 999 ∧ Y 102 18 = nI bd) ∧ (Y 102 23 = f ∧ Y 102 24 = t) ∧ MD Y nw wz wl tx len
/-- both sides, with one state -/
def LV (Y : zY) : Prop := ∃ n ch nn kd lf rt tx len ad mi wr bd nw wz wl f t, IX Y n ch nn kd lf rt tx len ad mi wr bd nw wz wl f t ∧ IM Y n ch nn kd lf rt tx len ad mi wr bd nw wz wl f t
theorem LV.mk {Y : zY} {n : Nat} {ch : Nat → Nat} {nn : Nat} {kd lf rt tx : Nat → Nat} {len ad mi wr bd nw : Nat} {wz : Nat → Nat} {wl : Nat → Nat → Nat} {f t : Int32} (h : IX Y n ch nn kd lf rt tx len ad mi wr bd nw wz wl f t) (g : IM Y n ch nn kd lf rt tx len ad mi wr bd nw wz wl f t) : LV Y := ⟨n, ch, nn, kd, lf, rt, tx, len, ad, mi, wr, bd, nw, wz, wl, f, t, h, g⟩
theorem IX.cg {Y Z : zY} {n : Nat} {ch : Nat → Nat} {nn : Nat} {kd lf rt tx : Nat → Nat} {len ad mi wr bd nw : Nat} {wz : Nat → Nat} {wl : Nat → Nat → Nat} {f t : Int32} (h : IX Y n ch nn kd lf rt tx len ad mi wr bd nw wz wl f t) (e : ∀ q, q < 102 → Z q = Y q) : IX Z n ch nn kd lf rt tx len ad mi wr bd nw wz wl f t := by
  obtain ⟨h1, h2, ⟨sz, h3⟩, ⟨kn, hk, h4⟩, h5, h6, h7⟩ := h
  have hn := h3.1.1
  exact ⟨h1.cg (congrFun (e 0 (by omega)) 1) (e 1 (by omega)), h2.rows (fun q a b => e q (by omega)), ⟨sz, h3.cg (fun q a b => e q (by omega)) (fun k _ => congrFun (e 18 (by omega)) k)⟩, ⟨kn, hk, h4.cg hn (congrFun (e 18 (by omega)) 2) (fun q a b => e q (by omega))⟩, ⟨h5.1, (congrFun (e 0 (by omega)) 7).trans h5.2⟩, ⟨(congrFun (e 0 (by omega)) 8).trans h6.1, (congrFun (e 0 (by omega)) 9).trans h6.2⟩, h7.cg (congrFun (e 45 (by omega)) 1) (fun q a => e q (by omega))⟩
theorem IM.cg {Y Z : zY} {n : Nat} {ch : Nat → Nat} {nn : Nat} {kd lf rt tx : Nat → Nat} {len ad mi wr bd nw : Nat} {wz : Nat → Nat} {wl : Nat → Nat → Nat} {f t : Int32} (h : IM Y n ch nn kd lf rt tx len ad mi wr bd nw wz wl f t) (e : ∀ q, 102 ≤ q → Z q = Y q) : IM Z n ch nn kd lf rt tx len ad mi wr bd nw wz wl f t := by
  obtain ⟨h1, h2, h3, h4, h5, h6⟩ := h
  exact ⟨h1.cg (congrFun (e 102 (by omega)) 0) (e 103 (by omega)), h2.cg (fun k _ => congrFun (e 102 (by omega)) k) (fun q a => e q (by omega)), h3.cg (congrFun (e 102 (by omega)) 21) (e 113 (by omega)), ⟨h4.1, (congrFun (e 102 (by omega)) 18).trans h4.2⟩, ⟨(congrFun (e 102 (by omega)) 23).trans h5.1, (congrFun (e 102 (by omega)) 24).trans h5.2⟩, h6.cg (fun k _ => congrFun (e 102 (by omega)) k) (fun q a => e q (by omega))⟩
theorem IX.lk {Y Z : zY} {n : Nat} {ch : Nat → Nat} {nn : Nat} {kd lf rt tx : Nat → Nat} {len ad mi wr bd nw : Nat} {wz : Nat → Nat} {wl : Nat → Nat → Nat} {f t : Int32} (h : IX Y n ch nn kd lf rt tx len ad mi wr bd nw wz wl f t) (g : LK Y Z) (hT : ∃ k, k ≤ len + 1 ∧ XT Z (cCost kd lf rt tx ad mi wr) nn k) : IX Z n ch nn kd lf rt tx len ad mi wr bd nw wz wl f t := by
  obtain ⟨h1, h2, ⟨sz, h3⟩, -, h5, h6, h7⟩ := h
  exact ⟨h1.cg (congrFun (g.1 0 (by omega) (by omega)) 1) (g.1 1 (by omega) (by omega)), h2.rows (fun q a b => g.1 q (by omega) (by omega)), ⟨sz, h3.lk g⟩, hT, ⟨h5.1, (congrFun (g.1 0 (by omega) (by omega)) 7).trans h5.2⟩, ⟨(congrFun (g.1 0 (by omega) (by omega)) 8).trans h6.1, (congrFun (g.1 0 (by omega) (by omega)) 9).trans h6.2⟩, h7.cg (congrFun (g.1 45 (by omega) (by omega)) 1) (fun q a => g.1 q (by omega) (by omega))⟩
theorem IX.xkf {Y Z : zY} {f2 t2 : Int32} {n : Nat} {ch : Nat → Nat} {nn : Nat} {kd lf rt tx : Nat → Nat} {len ad mi wr bd nw : Nat} {wz : Nat → Nat} {wl : Nat → Nat → Nat} {f t : Int32} (h : IX Y n ch nn kd lf rt tx len ad mi wr bd nw wz wl f t) (g : XKf Y Z) (e8 : Z 0 8 = f2) (e9 : Z 0 9 = t2) (hT : ∃ k, k ≤ len + 1 ∧ XT Z (cCost kd lf rt tx ad mi wr) nn k) : IX Z n ch nn kd lf rt tx len ad mi wr bd nw wz wl f2 t2 := by
  obtain ⟨h1, h2, ⟨sz, h3⟩, -, h5, h6, h7⟩ := h
  exact ⟨h1.cg (g.2.2 1 (by omega) (by omega)) (g.1 1 (by omega) (by omega) (by omega)), h2.rows (fun q a b => g.1 q (by omega) (by omega) (by omega)), ⟨sz, h3.xkf g⟩, hT, ⟨h5.1, (g.2.2 7 (by omega) (by omega)).trans h5.2⟩, ⟨e8, e9⟩, h7.cg (congrFun (g.1 45 (by omega) (by omega) (by omega)) 1) (fun q a => g.1 q (by omega) (by omega) (by omega))⟩
theorem IX.kxd {Y Z : zY} {n : Nat} {ch : Nat → Nat} {nn : Nat} {kd lf rt tx : Nat → Nat} {len ad mi wr bd nw : Nat} {wz : Nat → Nat} {wl : Nat → Nat → Nat} {f t : Int32} (h : IX Y n ch nn kd lf rt tx len ad mi wr bd nw wz wl f t) (g : KXd Y Z) : IX Z n ch nn kd lf rt tx len ad mi wr bd nw wz wl f t := by
  obtain ⟨h1, h2, ⟨sz, h3⟩, ⟨kn, hk, h4⟩, h5, h6, h7⟩ := h
  have hn := h3.1.1
  exact ⟨h1.cg (congrFun (g 0 (by omega) (by omega)) 1) (g 1 (by omega) (by omega)), h2.rows (fun q a b => g q (by omega) (by omega)), ⟨sz, h3.cg (fun q a b => g q (by omega) (by omega)) (fun k _ => congrFun (g 18 (by omega) (by omega)) k)⟩, ⟨kn, hk, h4.cg hn (congrFun (g 18 (by omega) (by omega)) 2) (fun q a b => g q (by omega) (by omega))⟩, ⟨h5.1, (congrFun (g 0 (by omega) (by omega)) 7).trans h5.2⟩, ⟨(congrFun (g 0 (by omega) (by omega)) 8).trans h6.1, (congrFun (g 0 (by omega) (by omega)) 9).trans h6.2⟩, h7.keep g⟩
theorem IM.mk {Y Z : zY} {n : Nat} {ch : Nat → Nat} {nn : Nat} {kd lf rt tx : Nat → Nat} {len ad mi wr bd nw : Nat} {wz : Nat → Nat} {wl : Nat → Nat → Nat} {f t : Int32} (h : IM Y n ch nn kd lf rt tx len ad mi wr bd nw wz wl f t) (g : MK Y Z) (hT : MT Z (cCost kd lf rt tx ad mi wr) len nn) : IM Z n ch nn kd lf rt tx len ad mi wr bd nw wz wl f t := by
  obtain ⟨h1, h2, h3, h4, h5, h6⟩ := h
  exact ⟨h1.cg (g.2 0 (by omega)) (g.1 103 (by omega) (by omega)), h2.keep g, hT, ⟨h4.1, (g.2 18 (by omega)).trans h4.2⟩, ⟨(g.2 23 (by omega)).trans h5.1, (g.2 24 (by omega)).trans h5.2⟩, h6.cg (fun k a => g.2 k (by omega)) (fun q a => g.1 q (by omega) (by omega))⟩
theorem IM.mkf {Y Z : zY} {f2 t2 : Int32} {n : Nat} {ch : Nat → Nat} {nn : Nat} {kd lf rt tx : Nat → Nat} {len ad mi wr bd nw : Nat} {wz : Nat → Nat} {wl : Nat → Nat → Nat} {f t : Int32} (h : IM Y n ch nn kd lf rt tx len ad mi wr bd nw wz wl f t) (g : MKf Y Z) (e8 : Z 102 23 = f2) (e9 : Z 102 24 = t2) (hT : MT Z (cCost kd lf rt tx ad mi wr) len nn) : IM Z n ch nn kd lf rt tx len ad mi wr bd nw wz wl f2 t2 := by
  obtain ⟨h1, h2, h3, h4, h5, h6⟩ := h
  exact ⟨h1.cg (g.2 0 (by omega) (by omega) (by omega)) (g.1 103 (by omega) (by omega)), h2.keepf g, hT, ⟨h4.1, (g.2 18 (by omega) (by omega) (by omega)).trans h4.2⟩, ⟨e8, e9⟩, h6.cg (fun k a => g.2 k (by omega) (by omega) (by omega)) (fun q a => g.1 q (by omega) (by omega))⟩
theorem IM.mkd {Y Z : zY} {n : Nat} {ch : Nat → Nat} {nn : Nat} {kd lf rt tx : Nat → Nat} {len ad mi wr bd nw : Nat} {wz : Nat → Nat} {wl : Nat → Nat → Nat} {f t : Int32} (h : IM Y n ch nn kd lf rt tx len ad mi wr bd nw wz wl f t) (g : MKd Y Z) : IM Z n ch nn kd lf rt tx len ad mi wr bd nw wz wl f t := by
  obtain ⟨h1, h2, h3, h4, h5, h6⟩ := h
  exact ⟨h1.cg (congrFun (g 102 (by omega)) 0) (g 103 (by omega)), h2.cg (fun k _ => congrFun (g 102 (by omega)) k) (fun q a => g q (by omega)), h3.cg (congrFun (g 102 (by omega)) 21) (g 113 (by omega)), ⟨h4.1, (congrFun (g 102 (by omega)) 18).trans h4.2⟩, ⟨(congrFun (g 102 (by omega)) 23).trans h5.1, (congrFun (g 102 (by omega)) 24).trans h5.2⟩, h6.keep g⟩
