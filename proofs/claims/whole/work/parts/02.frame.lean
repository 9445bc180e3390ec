/-! ===== the world: one list of places; a place's kind, its cell, the state of all ints ===== -/
/-- class ids: objects' (by vwCl), then the arrays' of int, char, Letters, int[] -/
abbrev zG : Type := va_G × (ClassId × (ClassId × (ClassId × ClassId)))
/-- all ints of all places -/
abbrev zY : Type := Nat → Nat → Int32
def zU (Y : zY) (p j : Nat) (v : Int32) : zY := fun a b => if a = p then (if b = j then v else Y a b) else Y a b
theorem zU_eq {Y : zY} {p j : Nat} {v : Int32} : zU Y p j v p j = v := by simp [zU]
theorem zU_np {Y : zY} {p j a b : Nat} {v : Int32} (h : a ≠ p) : zU Y p j v a b = Y a b := by simp [zU, h]
theorem zU_nj {Y : zY} {p j a b : Nat} {v : Int32} (h : b ≠ j) : zU Y p j v a b = Y a b := by
  unfold zU; split <;> simp [h]
theorem zU_row {Y : zY} {p j a : Nat} {v : Int32} (h : a ≠ p) : zU Y p j v a = Y a := by funext b; exact zU_np h
theorem zU_upd {Y : zY} {p j : Nat} {v : Int32} : zU Y p j v p = upd (Y p) j v := by
  funext b; simp [zU, upd]
/-- kinds: 0 FuzzyFinder, 1 reader, 2 Pattern, 3 Letters, 4 costs, 5 dictionary, 6 model, 7 char row, 8 int row, 9 the costs' rows, 10 the entries, 11 the steps' rows -/
def zKs : List Nat := [0, 7, 1, 2, 8, 8, 8, 8, 8, 8, 8, 2, 8, 8, 8, 8, 3, 7, 4, 9] ++ List.replicate 24 8 ++ [8, 5, 10, 8, 11] ++ List.replicate 13 8 ++ (List.range 20).flatMap (fun _ => [3, 7]) ++ [6] ++ List.replicate 14 8
def zLs : List Nat := [0, 40, 0, 0, 24, 24, 24, 24, 7, 7, 7, 0, 24, 24, 24, 24, 0, 24, 0, 24] ++ List.replicate 24 325 ++ [25, 0, 20, 20, 13] ++ List.replicate 13 25 ++ (List.range 20).flatMap (fun _ => [0, 24]) ++ [0, 40, 24, 24, 24, 80, 80, 80, 80, 80, 24, 15000, 20, 240, 325]
def zk (p : Nat) : Nat := zKs.getD p 8
def zl (p : Nat) : Nat := zLs.getD p 0
def zc (G : zG) (A : Nat → Nat) (Y : zY) (p : Nat) : va_E := match zk p with
  | 0 => .inr (5, [.ref (A 1), .int (Y p 1), .ref (A 2), .ref (A 11), .ref (A 16), .ref (A 18), .ref (A 45), .int (Y p 7), .int (Y p 8), .int (Y p 9)])
  | 1 => .inr (2, [.ref (A 3), .int (Y p 1), .int (Y p 2), .ref (A 8), .ref (A 9), .ref (A 10), .int (Y p 6), .int (Y p 7), .int (Y p 8)])
  | 2 => .inr (4, [.ref (A (p + 1)), .ref (A (p + 2)), .ref (A (p + 3)), .ref (A (p + 4)), .int (Y p 4)])
  | 3 => .inr (3, [.ref (A (p + 1)), .int (Y p 1)])
  | 4 => .inr (0, [.ref (A 19), .ref (A 44), .int (Y p 2), .int (Y p 3), .int (Y p 4), .int (Y p 5)])
  | 5 => .inr (1, [.ref (A 46), .int (Y p 1), .ref (A 47), .ref (A 48)])
  | 6 => .inr (6, [.int (Y p 0), .ref (A 103), .int (Y p 2), .ref (A 104), .ref (A 105), .ref (A 106), .int (Y p 6), .ref (A 107), .ref (A 108), .ref (A 109), .int (Y p 10), .ref (A 110), .int (Y p 12), .ref (A 111), .int (Y p 14), .int (Y p 15), .int (Y p 16), .int (Y p 17), .int (Y p 18), .int (Y p 19), .ref (A 112), .int (Y p 21), .ref (A 113), .int (Y p 23), .int (Y p 24), .int (Y p 25), .ref (A 114), .ref (A 115), .ref (A 116)])
  | 7 => .inl (G.2.2.1, zl p, .inl (Y p))
  | 9 => .inl (G.2.2.2.2, 24, .inr (.inr (.inr (.inr (fun i => if i < 24 then some (A (20 + i)) else none)))))
  | 10 => .inl (G.2.2.2.1, 20, .inr (.inr (.inr (.inr (fun i => if i < 20 then some (A (62 + 2 * i)) else none)))))
  | 11 => .inl (G.2.2.2.2, 13, .inr (.inr (.inr (.inr (fun i => if i < 13 then some (A (49 + i)) else none)))))
  | _ => .inl (G.2.1, zl p, .inl (Y p))
theorem zc_congr {G : zG} {A : Nat → Nat} {Y Z : zY} {p : Nat} (h : Y p = Z p) : zc G A Y p = zc G A Z p := by
  unfold zc; rw [h]
def zW (G : zG) (A : Nat → Nat) (Y : zY) : va_W := (List.range 117).map (fun p => (A p, zc G A Y p))
theorem zW_get {G : zG} {A : Nat → Nat} {Y : zY} {p : Nat} (h : p < 117) : (zW G A Y)[p]? = some (A p, zc G A Y p) := by
  simp [zW, List.getElem?_map, List.getElem?_range h]
theorem zW_inv {G : zG} {A : Nat → Nat} {Y : zY} {p : Nat} {q : Nat × va_E} (h : (zW G A Y)[p]? = some q) : p < 117 ∧ q = (A p, zc G A Y p) := by
  have hp : p < 117 := by
    have := (List.getElem?_eq_some_iff.mp h).1
    simpa [zW] using this
  rw [zW_get hp] at h
  exact ⟨hp, (Option.some.inj h).symm⟩
theorem zW_set {G : zG} {A : Nat → Nat} {Y Z : zY} {p : Nat} {e : va_E} (h : p < 117) (he : zc G A Z p = e) (ho : ∀ q, q ≠ p → Z q = Y q) : (zW G A Y).set p (A p, e) = zW G A Z := by
  apply List.ext_getElem?
  intro q
  rw [List.getElem?_set]
  by_cases hq : p = q
  · subst hq
    have hl : p < (zW G A Y).length := by simpa [zW] using h
    rw [if_pos rfl, if_pos hl, zW_get h, he]
  · rw [if_neg hq]
    by_cases h1 : q < 117
    · rw [zW_get h1, zW_get h1, zc_congr (ho q (fun z => hq z.symm))]
    · have e1 : (zW G A Y)[q]? = none := List.getElem?_eq_none (by simp [zW]; omega)
      have e2 : (zW G A Z)[q]? = none := List.getElem?_eq_none (by simp [zW]; omega)
      rw [e1, e2]
/-- the addresses of the world -/
def zAd (A : Nat → Nat) : Nat → Prop := fun q => ∃ p, p < 117 ∧ q = A p
def zInj (A : Nat → Nat) : Prop := ∀ p q, p < 117 → q < 117 → A p = A q → p = q
theorem zW_D {G : zG} {A : Nat → Nat} {Y : zY} (h : zInj A) : va_D (zAd A) (zW G A Y) := by
  refine ⟨fun i j p q hp hq e => ?_, fun k q hk => ?_⟩
  · obtain ⟨h1, rfl⟩ := zW_inv hp
    obtain ⟨h2, rfl⟩ := zW_inv hq
    exact h i j h1 h2 e
  · obtain ⟨h1, rfl⟩ := zW_inv hk
    exact ⟨k, h1, rfl⟩
def zTy (G : zG) : List (ClassId × FieldType) := [(G.2.1, .int), (G.2.2.1, .char), (G.2.2.2.1, .object "FuzzyFinder$Letters"), (G.2.2.2.2, .array .int)]
/-- links between nest mates -/
def zNF : List (String × Nat × String × String × String) := [("FuzzyFinder$CostTable", 56, "FuzzyFinder$Pattern", "kinds", "[I"), ("FuzzyFinder$CostTable", 63, "FuzzyFinder$Pattern", "lefts", "[I"), ("FuzzyFinder$CostTable", 69, "FuzzyFinder$Pattern", "rights", "[I"), ("FuzzyFinder$CostTable", 53, "FuzzyFinder$Pattern", "values", "[I"), ("FuzzyFinder", 68, "FuzzyFinder$Pattern", "count", "I"), ("FuzzyFinder$CostTable", 41, "FuzzyFinder$Pattern", "count", "I"), ("FuzzyFinder", 65, "FuzzyFinder$ExpressionReader", "draft", "LFuzzyFinder$Pattern;"), ("FuzzyFinder$Dictionary", 31, "FuzzyFinder$Letters", "count", "I"), ("FuzzyFinder$CostTable", 36, "FuzzyFinder$Letters", "count", "I"), ("FuzzyFinder", 93, "FuzzyFinder$Letters", "count", "I"), ("FuzzyFinder", 114, "FuzzyFinder$Dictionary", "count", "I")]
def zNM : List (String × Nat × MethodName) := [("FuzzyFinder", 19, ⟨"FuzzyFinder$ExpressionReader", "<init>", "()V"⟩), ("FuzzyFinder$ExpressionReader", 11, ⟨"FuzzyFinder$Pattern", "<init>", "()V"⟩), ("FuzzyFinder", 26, ⟨"FuzzyFinder$Pattern", "<init>", "()V"⟩), ("FuzzyFinder", 33, ⟨"FuzzyFinder$Letters", "<init>", "()V"⟩), ("FuzzyFinder", 40, ⟨"FuzzyFinder$CostTable", "<init>", "()V"⟩), ("FuzzyFinder", 47, ⟨"FuzzyFinder$Dictionary", "<init>", "()V"⟩), ("FuzzyFinder$Dictionary", 30, ⟨"FuzzyFinder$Letters", "<init>", "()V"⟩), ("FuzzyFinder", 61, ⟨"FuzzyFinder$ExpressionReader", "read", "([CI)I"⟩), ("FuzzyFinder$ExpressionReader", 45, ⟨"FuzzyFinder$Pattern", "clear", "()V"⟩), ("FuzzyFinder$ExpressionReader", 82, ⟨"FuzzyFinder", "isLetter", "(C)Z"⟩), ("FuzzyFinder$ExpressionReader", 114, ⟨"FuzzyFinder$Pattern", "put", "(IIII)I"⟩), ("FuzzyFinder$ExpressionReader", 98, ⟨"FuzzyFinder", "isDigit", "(C)Z"⟩), ("FuzzyFinder$ExpressionReader", 105, ⟨"FuzzyFinder$Pattern", "changeValue", "(II)V"⟩), ("FuzzyFinder", 71, ⟨"FuzzyFinder$Pattern", "copyFrom", "(LFuzzyFinder$Pattern;)V"⟩), ("FuzzyFinder", 75, ⟨"FuzzyFinder$CostTable", "forget", "()V"⟩), ("FuzzyFinder", 85, ⟨"FuzzyFinder$CostTable", "weigh", "(III)V"⟩), ("FuzzyFinder", 94, ⟨"FuzzyFinder$Letters", "append", "(C)V"⟩), ("FuzzyFinder", 98, ⟨"FuzzyFinder$Letters", "clear", "()V"⟩), ("FuzzyFinder", 101, ⟨"FuzzyFinder$CostTable", "learn", "(LFuzzyFinder$Pattern;LFuzzyFinder$Letters;)V"⟩), ("FuzzyFinder$CostTable", 95, ⟨"FuzzyFinder$Letters", "letterAt", "(I)C"⟩), ("FuzzyFinder", 105, ⟨"FuzzyFinder$CostTable", "ofWhole", "(LFuzzyFinder$Pattern;II)I"⟩), ("FuzzyFinder", 110, ⟨"FuzzyFinder$Dictionary", "keep", "(LFuzzyFinder$Letters;)I"⟩), ("FuzzyFinder$Dictionary", 40, ⟨"FuzzyFinder$Letters", "compareWith", "(LFuzzyFinder$Letters;)I"⟩), ("FuzzyFinder$Dictionary", 36, ⟨"FuzzyFinder$Letters", "copyFrom", "(LFuzzyFinder$Letters;)V"⟩), ("FuzzyFinder", 115, ⟨"FuzzyFinder$Dictionary", "distanceOf", "(ILFuzzyFinder$Letters;Z)I"⟩), ("FuzzyFinder$Dictionary", 57, ⟨"FuzzyFinder$Letters", "letterAt", "(I)C"⟩), ("FuzzyFinder", 119, ⟨"FuzzyFinder$Dictionary", "countWithin", "(ILFuzzyFinder$Letters;Z)I"⟩), ("FuzzyFinder", 122, ⟨"FuzzyFinder$Dictionary", "wordAtRank", "(ILFuzzyFinder$Letters;Z)I"⟩)]
def zN (U : State) : Prop := (∀ q ∈ zNF, va_Nw (.fieldLinkNest q.1 q.2.1 q.2.2.1 q.2.2.2.1 q.2.2.2.2 "FuzzyFinder") U) ∧ ∀ q ∈ zNM, va_Nw (.methodLinkNest q.1 q.2.1 q.2.2 "FuzzyFinder") U
theorem zN.warm {s U : State} (hW : s.WarmedH U.vm) (h : zN s) : zN U := ⟨fun q hq => va_Nw.warmF hW (h.1 q hq), fun q hq => va_Nw.warmM hW (h.2 q hq)⟩
theorem zN.same {u U : State} (hv : u.vm = U.vm) (h : zN u) : zN U := ⟨fun q hq => va_Nw.same rfl hv (h.1 q hq), fun q hq => va_Nw.same rfl hv (h.2 q hq)⟩
/-- what of the machine every method may take as given -/
def zK (G : zG) (A : Nat → Nat) (U : State) : Prop := va_K G.1 vwCl (zTy G) U ∧ zN U ∧ zInj A
theorem zK.warm {G : zG} {A : Nat → Nat} {s U : State} (hW : s.WarmedH U.vm) (h : zK G A s) : zK G A U := ⟨va_K.moved hW.alike h.1, zN.warm hW h.2.1, h.2.2⟩
def zPre (G : zG) (A : Nat → Nat) (Y : zY) (U : State) : Prop := va_P G.1 vwCl (zW G A Y) U.heap ∧ zK G A U
def zB (G : zG) (A : Nat → Nat) (Y : zY) (t : State) : Prop := va_P G.1 vwCl (zW G A Y) t.heap
theorem zBlind {G : zG} {A : Nat → Nat} {Y : zY} {as : List Value} : FrameBlind (va_Pc as (zPre G A Y)) := fun a U g mk h => ⟨h.1, h.2.1, va_K.moved (u := U) (U := U.calling g mk a) (Vm.Alike.refl U.vm) h.2.2.1, zN.same rfl h.2.2.2.1, h.2.2.2.2⟩
abbrev zWs (y : MethodName) (b : ByteArray) (n : Nat) (rt : Option FieldType) : List Cond := .code y b n rt :: wsL_law
/-- a method that answers a number: its contract -/
def ZI (l : Launch) (y : MethodName) (b : ByteArray) (n : Nat) (rt : FieldType) (fr lo : Nat) (G : zG) (A : Nat → Nat) (Y : zY) (as : List Value) (post : Int32 → zY → Prop) : Prop :=
  Met l y (zWs y b n (some rt)) { frames := fr, cells := 0, slots := 0, locals := lo } (va_Pc as (zPre G A Y)) (va_Qi post (zB G A) (zAd A)) 0 0 (zAd A)
/-- a method that answers nothing -/
def ZV (l : Launch) (y : MethodName) (b : ByteArray) (n : Nat) (fr lo : Nat) (G : zG) (A : Nat → Nat) (Y : zY) (as : List Value) (post : zY → Prop) : Prop :=
  Met l y (zWs y b n none) { frames := fr, cells := 0, slots := 0, locals := lo } (va_Pc as (zPre G A Y)) (va_Qv post (zB G A) (zAd A)) 0 0 (zAd A)
theorem zWs_in {y : MethodName} {b : ByteArray} {n : Nat} {rt : Option FieldType} {args : Array Value} {s : State} (h : ∀ w ∈ zWs y b n rt, w.before args s = true) : ∀ w ∈ wsL_law, w.before args s = true := fun w hw => h w (List.mem_cons_of_mem _ hw)
set_option maxRecDepth 100000 in
theorem zGoodL : wsL_law.all goodWord = true := by decide +kernel
theorem zGood {y : MethodName} {b : ByteArray} {n : Nat} {rt : Option FieldType} (h : Cond.code y b n rt ∈ wsL_law) : GoodIn wsL_law (zWs y b n rt) := goodIn_sub (fun w hw => (List.mem_cons.mp hw).elim (fun e => e ▸ h) id) (by
  rw [List.all_eq_true]
  intro w hw
  exact List.all_eq_true.mp zGoodL w ((List.mem_cons.mp hw).elim (fun e => e ▸ h) id))
theorem ZI.enter {l : Launch} {y : MethodName} {b : ByteArray} {n : Nat} {rt : FieldType} {fr lo : Nat} {G : zG} {A : Nat → Nat} {Y : zY} {as : List Value} {post : Int32 → zY → Prop} (hy : plainName y.cls = true) (hn : (lg_sl as).length ≤ n)
    (body : ∀ (p : Program) (e : Env) (s : State) (m : MethodId) (args : Array Value) (below : List Frame) (meth : Method) (c : Code) (R : Room) (Q : State → Prop), p.tables.exec = Jvm.exec → c.code = b → CallFix p m c b n s args wsL_law y.cls → zK G A s → fr ≤ R.frames → lo ≤ R.locals → 
      (∀ (v : Int32) (Y' : zY) (H : Heap) (locs : List Loc) (pc : Nat) (ls : Array Slot), decode b pc = .ok (.ireturn, 1) → narrow rt (.int v) = .int v → va_P G.1 vwCl (zW G A Y') H → va_S (zAd A) s.heap H locs → post v Y' → W p l e R s m args below meth c H locs 0 0 Q (F0 m pc ls [.int v])) →
      ∀ (H : Heap) (ls : Array Slot), va_P G.1 vwCl (zW G A Y) H → va_S (zAd A) s.heap H [] → lv_has ls n (lv_args 0 as) → W p l e R s m args below meth c H [] 0 0 Q (F0 m 0 ls [])) : ZI l y b n rt fr lo G A Y as post := by
  refine Met.ofW (cc := b) (maxL := n) (ret := some rt) hy rfl ?_
  intro p e s m args below meth c s₁ B hml hv
  obtain ⟨rfl, hP, hK⟩ := hv
  have hts := atoms_spec (ws := zWs y b n (some rt)) B.pre
  have hown : s.vm.findClass y.cls = some m.cls := findClass_of_methodNamed B.named
  have hl := lv_entry as (n := n) hn
  rw [lg_entry_eq]
  refine body p e s m as.toArray below meth c _ _ B.exec B.bytes ⟨B.exec, B.bytes, hml, hown, zWs_in hts⟩ hK (Nat.le_refl _) (Nat.le_refl _) ?_ s.heap _ hP va_S.rf hl
  intro v Y' H locs pc ls hdg hnar hP' hS hpost
  exact W.zret (v := v) B.exec B.bytes B.returns hnar (fun t ht hW => ⟨⟨v, Y', rfl, hpost, by show va_P _ _ _ t.heap; rw [ht]; exact hP'⟩, hS.F ht⟩) hS.2.2 hdg B.notSynchronized
theorem ZV.enter {l : Launch} {y : MethodName} {b : ByteArray} {n : Nat} {fr lo : Nat} {G : zG} {A : Nat → Nat} {Y : zY} {as : List Value} {post : zY → Prop} (hy : plainName y.cls = true) (hn : (lg_sl as).length ≤ n)
    (body : ∀ (p : Program) (e : Env) (s : State) (m : MethodId) (args : Array Value) (below : List Frame) (meth : Method) (c : Code) (R : Room) (Q : State → Prop), p.tables.exec = Jvm.exec → c.code = b → CallFix p m c b n s args wsL_law y.cls → zK G A s → fr ≤ R.frames → lo ≤ R.locals → 
      (∀ (Y' : zY) (H : Heap) (locs : List Loc) (pc : Nat) (ls : Array Slot), decode b pc = .ok (.return_, 1) → va_P G.1 vwCl (zW G A Y') H → va_S (zAd A) s.heap H locs → post Y' → W p l e R s m args below meth c H locs 0 0 Q (F0 m pc ls [])) →
      ∀ (H : Heap) (ls : Array Slot), va_P G.1 vwCl (zW G A Y) H → va_S (zAd A) s.heap H [] → lv_has ls n (lv_args 0 as) → W p l e R s m args below meth c H [] 0 0 Q (F0 m 0 ls [])) : ZV l y b n fr lo G A Y as post := by
  refine Met.ofW (cc := b) (maxL := n) (ret := none) hy rfl ?_
  intro p e s m args below meth c s₁ B hml hv
  obtain ⟨rfl, hP, hK⟩ := hv
  have hts := atoms_spec (ws := zWs y b n none) B.pre
  have hown : s.vm.findClass y.cls = some m.cls := findClass_of_methodNamed B.named
  have hl := lv_entry as (n := n) hn
  rw [lg_entry_eq]
  refine body p e s m as.toArray below meth c _ _ B.exec B.bytes ⟨B.exec, B.bytes, hml, hown, zWs_in hts⟩ hK (Nat.le_refl _) (Nat.le_refl _) ?_ s.heap _ hP va_S.rf hl
  intro Y' H locs pc ls hdg hP' hS hpost
  exact W.vret B.exec B.bytes B.returns (fun t ht hW => ⟨⟨Y', rfl, hpost, by show va_P _ _ _ t.heap; rw [ht]; exact hP'⟩, hS.F ht⟩) hS.2.2 hdg B.notSynchronized
section ZR
variable {p : Program} {l : Launch} {e : Env} {R : Room} {s : State} {m : MethodId} {args : Array Value} {below : List Frame} {meth : Method} {c : Code} {H : Heap} {locs : List Loc} {cells slots : Nat} {Q : State → Prop}
variable {cc : ByteArray} {pc nL : Nat} {ls : Array Slot} {rest : List Value} {G : zG} {A : Nat → Nat} {Y : zY} {B0 : Nat → Prop} {H0 : Heap} {own : String}
/-- a call of a method with a number as its answer: invokevirtual -/
theorem ZI.callV (S : CallFix p m c cc nL s args wsL_law own) (hK : zK G A s) (hP : va_P G.1 vwCl (zW G A Y) H) (hS : va_S B0 H0 H locs) (hB : ∀ q, zAd A q → B0 q) {y : MethodName} {b : ByteArray} {n : Nat} {rt : FieldType} {fr lo : Nat} {as : List Value} {post : Int32 → zY → Prop} {p0 ci : Nat} {fs : List Value}
    (hM : ZI l y b n rt fr lo G A Y (.ref (A p0) :: as) post) {index : Nat} (hw : ∀ w ∈ ([.methodLink own index y, .instanceMethod y, .selects y.cls y y, .initialized y.cls, .code y b n (some rt)] : List Cond), w ∈ wsL_law)
    {k9 : Nat} (hd : y.cls ≠ "java/lang/invoke/MethodHandle" ∧ y.cls ≠ "java/lang/invoke/VarHandle" ∧ (parseMethodDescriptor y.desc).map (fun d => d.parameters.length) = some k9) (hk9 : as.length = k9) (hR : fr + 1 ≤ R.frames ∧ 8 + (n + 11) + lo ≤ R.locals)
    (h0 : p0 < 117) (he : zc G A Y p0 = .inr (ci, fs)) {T : u_T} {N : Nat} (hc : vwCl[ci]? = some (y.cls, T, N)) {st : List Value} (hst : st = as.reverse ++ .ref (A p0) :: rest) (hr8 : (rest.map fun v => v.category).sum ≤ 8) (hl : ls.size = nL) (hdg : decode cc pc = .ok (.invokevirtual index, 3)) (hf : cells + 0 ≤ R.cells ∧ slots + 0 ≤ R.slots)
    (kk : ∀ (r : Int32) (Y' : zY) (H1 : Heap) (locs1 : List Loc), post r Y' → va_P G.1 vwCl (zW G A Y') H1 → va_S B0 H0 H1 locs1 → W p l e R s m args below meth c H1 locs1 cells slots Q (F0 m (pc + 3) ls (.int r :: rest))) : W p l e R s m args below meth c H locs cells slots Q (F0 m pc ls st) := by
  subst hst
  subst hk9
  have hG : GoodIn wsL_law (wsV own index y.cls y (zWs y b n (some rt))) := goodIn_app (goodIn_sub (fun w h => hw w (by simp at h ⊢; rcases h with h | h | h | h <;> simp [h])) (by
    rw [List.all_eq_true]
    intro w h
    exact List.all_eq_true.mp zGoodL w (hw w (by simp at h ⊢; rcases h with h | h | h | h <;> simp [h])))) (zGood (hw _ (by simp)))
  have hrec := va_recv hK.1 hP hc (by rw [zW_get h0, he])
  refine va_calli (va_runV (As := as) (rest := rest) S hM (cwV as.length S.2.2.2.2 hG rfl rfl rfl ⟨rfl, hd⟩ hR) ⟨zBlind, hrec, fun U hU hW => ⟨rfl, by rw [hU]; exact hP, hK.warm hW⟩⟩ rfl rfl hl rfl (lv_room hr8) hdg hf) hS (fun q _ h => hB q h) hB (fun r u t H1 locs1 ht hvm hw hb hz hk1 hS1 => ?_)
  have hb : va_P _ _ _ t.heap := hb
  rw [ht] at hb
  exact kk r u H1 locs1 hw hb hS1
theorem ZV.callV (S : CallFix p m c cc nL s args wsL_law own) (hK : zK G A s) (hP : va_P G.1 vwCl (zW G A Y) H) (hS : va_S B0 H0 H locs) (hB : ∀ q, zAd A q → B0 q) {y : MethodName} {b : ByteArray} {n : Nat} {fr lo : Nat} {as : List Value} {post : zY → Prop} {p0 ci : Nat} {fs : List Value}
    (hM : ZV l y b n fr lo G A Y (.ref (A p0) :: as) post) {index : Nat} (hw : ∀ w ∈ ([.methodLink own index y, .instanceMethod y, .selects y.cls y y, .initialized y.cls, .code y b n none] : List Cond), w ∈ wsL_law)
    {k9 : Nat} (hd : y.cls ≠ "java/lang/invoke/MethodHandle" ∧ y.cls ≠ "java/lang/invoke/VarHandle" ∧ (parseMethodDescriptor y.desc).map (fun d => d.parameters.length) = some k9) (hk9 : as.length = k9) (hR : fr + 1 ≤ R.frames ∧ 8 + (n + 11) + lo ≤ R.locals)
    (h0 : p0 < 117) (he : zc G A Y p0 = .inr (ci, fs)) {T : u_T} {N : Nat} (hc : vwCl[ci]? = some (y.cls, T, N)) {st : List Value} (hst : st = as.reverse ++ .ref (A p0) :: rest) (hr8 : (rest.map fun v => v.category).sum ≤ 8) (hl : ls.size = nL) (hdg : decode cc pc = .ok (.invokevirtual index, 3)) (hf : cells + 0 ≤ R.cells ∧ slots + 0 ≤ R.slots)
    (kk : ∀ (Y' : zY) (H1 : Heap) (locs1 : List Loc), post Y' → va_P G.1 vwCl (zW G A Y') H1 → va_S B0 H0 H1 locs1 → W p l e R s m args below meth c H1 locs1 cells slots Q (F0 m (pc + 3) ls rest)) : W p l e R s m args below meth c H locs cells slots Q (F0 m pc ls st) := by
  subst hst
  subst hk9
  have hG : GoodIn wsL_law (wsV own index y.cls y (zWs y b n none)) := goodIn_app (goodIn_sub (fun w h => hw w (by simp at h ⊢; rcases h with h | h | h | h <;> simp [h])) (by
    rw [List.all_eq_true]
    intro w h
    exact List.all_eq_true.mp zGoodL w (hw w (by simp at h ⊢; rcases h with h | h | h | h <;> simp [h])))) (zGood (hw _ (by simp)))
  have hrec := va_recv hK.1 hP hc (by rw [zW_get h0, he])
  refine va_callv (va_runV (As := as) (rest := rest) S hM (cwV as.length S.2.2.2.2 hG rfl rfl rfl ⟨rfl, hd⟩ hR) ⟨zBlind, hrec, fun U hU hW => ⟨rfl, by rw [hU]; exact hP, hK.warm hW⟩⟩ rfl rfl hl rfl (lv_room hr8) hdg hf) hS (fun q _ h => hB q h) hB (fun u t H1 locs1 ht hvm hw hb hz hk1 hS1 => ?_)
  have hb : va_P _ _ _ t.heap := hb
  rw [ht] at hb
  exact kk u H1 locs1 hw hb hS1
/-- a static method of its own class -/
theorem ZI.callS (S : CallFix p m c cc nL s args wsL_law own) (hK : zK G A s) (hP : va_P G.1 vwCl (zW G A Y) H) (hS : va_S B0 H0 H locs) (hB : ∀ q, zAd A q → B0 q) {y : MethodName} {b : ByteArray} {n : Nat} {rt : FieldType} {fr lo : Nat} {as : List Value} {post : Int32 → zY → Prop}
    (hM : ZI l y b n rt fr lo G A Y as post) {index : Nat} (hw : ∀ w ∈ ([.methodLink own index y, .static y, .initialized y.cls, .code y b n (some rt)] : List Cond), w ∈ wsL_law)
    {k9 : Nat} (hd : y.cls ≠ "java/lang/invoke/MethodHandle" ∧ y.cls ≠ "java/lang/invoke/VarHandle" ∧ (parseMethodDescriptor y.desc).map (fun d => d.parameters.length) = some k9) (hk9 : as.length = k9) (hR : fr + 1 ≤ R.frames ∧ 8 + (n + 11) + lo ≤ R.locals)
    {st : List Value} (hst : st = as.reverse ++ rest) (hr8 : (rest.map fun v => v.category).sum ≤ 8) (hl : ls.size = nL) (hdg : decode cc pc = .ok (.invokestatic index, 3)) (hf : cells + 0 ≤ R.cells ∧ slots + 0 ≤ R.slots)
    (kk : ∀ (r : Int32) (Y' : zY) (H1 : Heap) (locs1 : List Loc), post r Y' → va_P G.1 vwCl (zW G A Y') H1 → va_S B0 H0 H1 locs1 → W p l e R s m args below meth c H1 locs1 cells slots Q (F0 m (pc + 3) ls (.int r :: rest))) : W p l e R s m args below meth c H locs cells slots Q (F0 m pc ls st) := by
  subst hst
  subst hk9
  have hG : GoodIn wsL_law (va_wsS own index y (zWs y b n (some rt))) := goodIn_app (goodIn_sub (fun w h => hw w (by simp at h ⊢; rcases h with h | h | h <;> simp [h])) (by
    rw [List.all_eq_true]
    intro w h
    exact List.all_eq_true.mp zGoodL w (hw w (by simp at h ⊢; rcases h with h | h | h <;> simp [h])))) (zGood (hw _ (by simp)))
  refine va_calli (va_runS (As := as) (rest := rest) S hM (va_cwS as.length S.2.2.2.2 hG rfl rfl rfl hd hR) ⟨zBlind, fun U hU hW => ⟨rfl, by rw [hU]; exact hP, hK.warm hW⟩⟩ rfl rfl hl rfl (lv_room hr8) hdg hf) hS (fun q _ h => hB q h) hB (fun r u t H1 locs1 ht hvm hw hb hz hk1 hS1 => ?_)
  have hb : va_P _ _ _ t.heap := hb
  rw [ht] at hb
  exact kk r u H1 locs1 hw hb hS1
/-- a nest mate's private method -/
theorem ZI.callVN (S : CallFix p m c cc nL s args wsL_law own) (hK : zK G A s) (hP : va_P G.1 vwCl (zW G A Y) H) (hS : va_S B0 H0 H locs) (hB : ∀ q, zAd A q → B0 q) {y : MethodName} {b : ByteArray} {n : Nat} {rt : FieldType} {fr lo : Nat} {as : List Value} {post : Int32 → zY → Prop} {p0 ci : Nat} {fs : List Value}
    (hM : ZI l y b n rt fr lo G A Y (.ref (A p0) :: as) post) {index : Nat} (hn : (own, index, y) ∈ zNM) (hw : ∀ w ∈ ([.instanceMethod y, .selects y.cls y y, .initialized y.cls, .code y b n (some rt)] : List Cond), w ∈ wsL_law)
    {k9 : Nat} (hd : y.cls ≠ "java/lang/invoke/MethodHandle" ∧ y.cls ≠ "java/lang/invoke/VarHandle" ∧ (parseMethodDescriptor y.desc).map (fun d => d.parameters.length) = some k9) (hk9 : as.length = k9) (hR : fr + 1 ≤ R.frames ∧ 8 + (n + 11) + lo ≤ R.locals)
    (h0 : p0 < 117) (he : zc G A Y p0 = .inr (ci, fs)) {T : u_T} {N : Nat} (hc : vwCl[ci]? = some (y.cls, T, N)) {st : List Value} (hst : st = as.reverse ++ .ref (A p0) :: rest) (hr8 : (rest.map fun v => v.category).sum ≤ 8) (hl : ls.size = nL) (hdg : decode cc pc = .ok (.invokevirtual index, 3)) (hf : cells + 0 ≤ R.cells ∧ slots + 0 ≤ R.slots)
    (kk : ∀ (r : Int32) (Y' : zY) (H1 : Heap) (locs1 : List Loc), post r Y' → va_P G.1 vwCl (zW G A Y') H1 → va_S B0 H0 H1 locs1 → W p l e R s m args below meth c H1 locs1 cells slots Q (F0 m (pc + 3) ls (.int r :: rest))) : W p l e R s m args below meth c H locs cells slots Q (F0 m pc ls st) := by
  subst hst
  subst hk9
  have hrec := va_recv hK.1 hP hc (by rw [zW_get h0, he])
  have hT := S.2.2.2.2
  refine va_calli (va_runVN (As := as) (rest := rest) (host := "FuzzyFinder") S hM ⟨va_cnB as.length hT (zGood (hw _ (by simp))) rfl rfl rfl (hK.2.1.2 _ hn) (hT _ (hw _ (by simp))) hd hR, hT _ (hw _ (by simp)), hT _ (hw _ (by simp))⟩ ⟨zBlind, hrec, fun U hU hW => ⟨rfl, by rw [hU]; exact hP, hK.warm hW⟩⟩ rfl rfl hl rfl (lv_room hr8) hdg hf) hS (fun q _ h => hB q h) hB (fun r u t H1 locs1 ht hvm hw hb hz hk1 hS1 => ?_)
  have hb : va_P _ _ _ t.heap := hb
  rw [ht] at hb
  exact kk r u H1 locs1 hw hb hS1
theorem ZV.callVN (S : CallFix p m c cc nL s args wsL_law own) (hK : zK G A s) (hP : va_P G.1 vwCl (zW G A Y) H) (hS : va_S B0 H0 H locs) (hB : ∀ q, zAd A q → B0 q) {y : MethodName} {b : ByteArray} {n : Nat} {fr lo : Nat} {as : List Value} {post : zY → Prop} {p0 ci : Nat} {fs : List Value}
    (hM : ZV l y b n fr lo G A Y (.ref (A p0) :: as) post) {index : Nat} (hn : (own, index, y) ∈ zNM) (hw : ∀ w ∈ ([.instanceMethod y, .selects y.cls y y, .initialized y.cls, .code y b n none] : List Cond), w ∈ wsL_law)
    {k9 : Nat} (hd : y.cls ≠ "java/lang/invoke/MethodHandle" ∧ y.cls ≠ "java/lang/invoke/VarHandle" ∧ (parseMethodDescriptor y.desc).map (fun d => d.parameters.length) = some k9) (hk9 : as.length = k9) (hR : fr + 1 ≤ R.frames ∧ 8 + (n + 11) + lo ≤ R.locals)
    (h0 : p0 < 117) (he : zc G A Y p0 = .inr (ci, fs)) {T : u_T} {N : Nat} (hc : vwCl[ci]? = some (y.cls, T, N)) {st : List Value} (hst : st = as.reverse ++ .ref (A p0) :: rest) (hr8 : (rest.map fun v => v.category).sum ≤ 8) (hl : ls.size = nL) (hdg : decode cc pc = .ok (.invokevirtual index, 3)) (hf : cells + 0 ≤ R.cells ∧ slots + 0 ≤ R.slots)
    (kk : ∀ (Y' : zY) (H1 : Heap) (locs1 : List Loc), post Y' → va_P G.1 vwCl (zW G A Y') H1 → va_S B0 H0 H1 locs1 → W p l e R s m args below meth c H1 locs1 cells slots Q (F0 m (pc + 3) ls rest)) : W p l e R s m args below meth c H locs cells slots Q (F0 m pc ls st) := by
  subst hst
  subst hk9
  have hrec := va_recv hK.1 hP hc (by rw [zW_get h0, he])
  have hT := S.2.2.2.2
  refine va_callv (va_runVN (As := as) (rest := rest) (host := "FuzzyFinder") S hM ⟨va_cnB as.length hT (zGood (hw _ (by simp))) rfl rfl rfl (hK.2.1.2 _ hn) (hT _ (hw _ (by simp))) hd hR, hT _ (hw _ (by simp)), hT _ (hw _ (by simp))⟩ ⟨zBlind, hrec, fun U hU hW => ⟨rfl, by rw [hU]; exact hP, hK.warm hW⟩⟩ rfl rfl hl rfl (lv_room hr8) hdg hf) hS (fun q _ h => hB q h) hB (fun u t H1 locs1 ht hvm hw hb hz hk1 hS1 => ?_)
  have hb : va_P _ _ _ t.heap := hb
  rw [ht] at hb
  exact kk u H1 locs1 hw hb hS1
/-- a nest mate's private static method -/
theorem ZI.callSN (S : CallFix p m c cc nL s args wsL_law own) (hK : zK G A s) (hP : va_P G.1 vwCl (zW G A Y) H) (hS : va_S B0 H0 H locs) (hB : ∀ q, zAd A q → B0 q) {y : MethodName} {b : ByteArray} {n : Nat} {rt : FieldType} {fr lo : Nat} {as : List Value} {post : Int32 → zY → Prop}
    (hM : ZI l y b n rt fr lo G A Y as post) {index : Nat} (hn : (own, index, y) ∈ zNM) (hw : ∀ w ∈ ([.static y, .initialized y.cls, .code y b n (some rt)] : List Cond), w ∈ wsL_law)
    {k9 : Nat} (hd : y.cls ≠ "java/lang/invoke/MethodHandle" ∧ y.cls ≠ "java/lang/invoke/VarHandle" ∧ (parseMethodDescriptor y.desc).map (fun d => d.parameters.length) = some k9) (hk9 : as.length = k9) (hR : fr + 1 ≤ R.frames ∧ 8 + (n + 11) + lo ≤ R.locals)
    {st : List Value} (hst : st = as.reverse ++ rest) (hr8 : (rest.map fun v => v.category).sum ≤ 8) (hl : ls.size = nL) (hdg : decode cc pc = .ok (.invokestatic index, 3)) (hf : cells + 0 ≤ R.cells ∧ slots + 0 ≤ R.slots)
    (kk : ∀ (r : Int32) (Y' : zY) (H1 : Heap) (locs1 : List Loc), post r Y' → va_P G.1 vwCl (zW G A Y') H1 → va_S B0 H0 H1 locs1 → W p l e R s m args below meth c H1 locs1 cells slots Q (F0 m (pc + 3) ls (.int r :: rest))) : W p l e R s m args below meth c H locs cells slots Q (F0 m pc ls st) := by
  subst hst
  subst hk9
  have hT := S.2.2.2.2
  refine va_calli (va_runSN (As := as) (rest := rest) (host := "FuzzyFinder") S hM ⟨va_cnB as.length hT (zGood (hw _ (by simp))) rfl rfl rfl (hK.2.1.2 _ hn) (hT _ (hw _ (by simp))) hd hR, hT _ (hw _ (by simp)), trivial⟩ ⟨zBlind, fun U hU hW => ⟨rfl, by rw [hU]; exact hP, hK.warm hW⟩⟩ rfl rfl hl rfl (lv_room hr8) hdg hf) hS (fun q _ h => hB q h) hB (fun r u t H1 locs1 ht hvm hw hb hz hk1 hS1 => ?_)
  have hb : va_P _ _ _ t.heap := hb
  rw [ht] at hb
  exact kk r u H1 locs1 hw hb hS1
/-- a field of its own class -/
theorem zget (S : CallFix p m c cc nL s args wsL_law own) (hK : zK G A s) (hP : va_P G.1 vwCl (zW G A Y) H) (p0 : Nat) (hp : p0 < 117) {ci : Nat} {fs : List Value} (he : zc G A Y p0 = .inr (ci, fs)) {C : String} {T : u_T} {N : Nat} (hc : vwCl[ci]? = some (C, T, N)) (hin : ∀ w ∈ u_ws C T N, w ∈ wsL_law) (k : Nat) (hk : k < N) {index : Nat} (hl : Cond.fieldLink own index (T k).1 (T k).2.1 (T k).2.2.1 ∈ wsL_law) {v : Value} (hv : fs[k]? = some v) (hdg : decode cc pc = .ok (.getfield index, 3))
    (kk : W p l e R s m args below meth c H locs cells slots Q (F0 m (pc + 3) ls (v :: rest))) : W p l e R s m args below meth c H locs cells slots Q (F0 m pc ls (.ref (A p0) :: rest)) :=
  va_get (D := G.1) S.1 S.2.1 S.2.2.2.2 hin S.2.2.2.1 hK.1 hP p0 (by rw [zW_get hp, he]) hc k hk (S.2.2.2.2 _ hl) (fun _ h => h) hv hdg kk
/-- a field of a nest mate -/
theorem zgetN (S : CallFix p m c cc nL s args wsL_law own) (hK : zK G A s) (hP : va_P G.1 vwCl (zW G A Y) H) (p0 : Nat) (hp : p0 < 117) {ci : Nat} {fs : List Value} (he : zc G A Y p0 = .inr (ci, fs)) {C : String} {T : u_T} {N : Nat} (hc : vwCl[ci]? = some (C, T, N)) (hin : ∀ w ∈ u_ws C T N, w ∈ wsL_law) (k : Nat) (hk : k < N) {index : Nat} (hl : (own, index, (T k).1, (T k).2.1, (T k).2.2.1) ∈ zNF) {v : Value} (hv : fs[k]? = some v) (hdg : decode cc pc = .ok (.getfield index, 3))
    (kk : W p l e R s m args below meth c H locs cells slots Q (F0 m (pc + 3) ls (v :: rest))) : W p l e R s m args below meth c H locs cells slots Q (F0 m pc ls (.ref (A p0) :: rest)) :=
  va_getN (D := G.1) (host := "FuzzyFinder") S.1 S.2.1 S.2.2.2.2 hin S.2.2.2.1 hK.1 hP p0 (by rw [zW_get hp, he]) hc k hk (va_Nw.use rfl (hK.2.1.1 _ hl)) (fun _ h => h) hv hdg kk
theorem zput (S : CallFix p m c cc nL s args wsL_law own) (hK : zK G A s) (hP : va_P G.1 vwCl (zW G A Y) H) (hS : va_S B0 H0 H locs) (hB : ∀ q, zAd A q → B0 q) (p0 : Nat) (hp : p0 < 117) {ci : Nat} {fs : List Value} (he : zc G A Y p0 = .inr (ci, fs)) {C : String} {T : u_T} {N : Nat} (hc : vwCl[ci]? = some (C, T, N)) (hin : ∀ w ∈ u_ws C T N, w ∈ wsL_law) (ty0 : Nat → FieldType) (hty : ∀ k, k < N → parseFieldDescriptor (T k).2.2.1 = some (ty0 k)) (hnm : ∀ a, a < N → ∀ b, b < N → a ≠ b → (T a).2.1 ≠ (T b).2.1) (k : Nat) (hk : k < N) {index : Nat} (hl : Cond.fieldLink own index (T k).1 (T k).2.1 (T k).2.2.1 ∈ wsL_law) (hfin : (T k).2.2.2 = false) {ty : FieldType} {v : Int32} (hd : parseFieldDescriptor (T k).2.2.1 = some ty) (hn : narrow ty (.int v) = .int v) (hfit : fits ty (.int v) = true) (hlen : k < fs.length)
    (hset : zc G A (zU Y p0 k v) p0 = .inr (ci, fs.set k (.int v))) (hdg : decode cc pc = .ok (.putfield index, 3))
    (kk : ∀ (H1 : Heap) (locs1 : List Loc), va_P G.1 vwCl (zW G A (zU Y p0 k v)) H1 → va_S B0 H0 H1 locs1 → W p l e R s m args below meth c H1 locs1 cells slots Q (F0 m (pc + 3) ls rest)) : W p l e R s m args below meth c H locs cells slots Q (F0 m pc ls (.int v :: .ref (A p0) :: rest)) := by
  refine va_put (D := G.1) S.1 S.2.1 S.2.2.2.2 hin ty0 hty hnm S.2.2.2.1 hK.1 hP ((zW_D hK.2.2).weaken (fun _ _ _ h => hB _ h)) hS p0 (by rw [zW_get hp, he]) hc k hk (S.2.2.2.2 _ hl) (fun _ h => h) hfin hd hn hfit hlen hdg (fun H1 locs1 hP1 _ hS1 => ?_)
  rw [zW_set hp hset (fun q hq => zU_row hq)] at hP1
  exact kk H1 locs1 hP1 hS1
/-- rows of ints and of chars -/
theorem zald (S : CallFix p m c cc nL s args wsL_law own) (hK : zK G A s) (hP : va_P G.1 vwCl (zW G A Y) H) (p0 n : Nat) (hp : p0 < 117) (hz : zk p0 = 8) (hn : zl p0 = n) {i : Int32} (hin : vp_in i n) {v : Int32} (hv : Y p0 i.toNatClampNeg = v) (hdg : decode cc pc = .ok (.iaload, 1))
    (kk : W p l e R s m args below meth c H locs cells slots Q (F0 m (pc + 1) ls (.int v :: rest))) : W p l e R s m args below meth c H locs cells slots Q (F0 m pc ls (.int i :: .ref (A p0) :: rest)) := by
  subst hn; subst hv
  exact va_iald (D := G.1) S.1 S.2.1 hK.1 hP p0 0 (cA := G.2.1) (n := zl p0) (f := Y p0) (by rw [zW_get hp]; simp [zc, hz]) rfl hin hdg kk
theorem zcald (S : CallFix p m c cc nL s args wsL_law own) (hK : zK G A s) (hP : va_P G.1 vwCl (zW G A Y) H) (p0 n : Nat) (hp : p0 < 117) (hz : zk p0 = 7) (hn : zl p0 = n) {i : Int32} (hin : vp_in i n) {v : Int32} (hv : Y p0 i.toNatClampNeg = v) (hdg : decode cc pc = .ok (.caload, 1))
    (kk : W p l e R s m args below meth c H locs cells slots Q (F0 m (pc + 1) ls (.int v :: rest))) : W p l e R s m args below meth c H locs cells slots Q (F0 m pc ls (.int i :: .ref (A p0) :: rest)) := by
  subst hn; subst hv
  exact va_cald (D := G.1) S.1 S.2.1 hK.1 hP p0 1 (cA := G.2.2.1) (n := zl p0) (f := Y p0) (by rw [zW_get hp]; simp [zc, hz]) rfl hin hdg kk
theorem zast (S : CallFix p m c cc nL s args wsL_law own) (hK : zK G A s) (hP : va_P G.1 vwCl (zW G A Y) H) (hS : va_S B0 H0 H locs) (hB : ∀ q, zAd A q → B0 q) (p0 n : Nat) (hp : p0 < 117) (hz : zk p0 = 8) (hn : zl p0 = n) {i v : Int32} {j : Nat} (hin : vp_in i n) (hj : i.toNatClampNeg = j) (hdg : decode cc pc = .ok (.iastore, 1))
    (kk : ∀ (H1 : Heap) (locs1 : List Loc), va_P G.1 vwCl (zW G A (zU Y p0 j v)) H1 → va_S B0 H0 H1 locs1 → W p l e R s m args below meth c H1 locs1 cells slots Q (F0 m (pc + 1) ls rest)) : W p l e R s m args below meth c H locs cells slots Q (F0 m pc ls (.int v :: .int i :: .ref (A p0) :: rest)) := by
  subst hn; subst hj
  refine va_iast (D := G.1) S.1 S.2.1 hK.1 hP ((zW_D hK.2.2).weaken (fun _ _ _ h => hB _ h)) hS p0 0 (cA := G.2.1) (n := zl p0) (f := Y p0) (by rw [zW_get hp]; simp [zc, hz]) rfl hin hdg (fun H1 locs1 hP1 _ hS1 => ?_)
  rw [zW_set (Z := zU Y p0 i.toNatClampNeg v) hp (by simp [zc, hz, zU_upd]) (fun q hq => zU_row hq)] at hP1
  exact kk H1 locs1 hP1 hS1
theorem zcast (S : CallFix p m c cc nL s args wsL_law own) (hK : zK G A s) (hP : va_P G.1 vwCl (zW G A Y) H) (hS : va_S B0 H0 H locs) (hB : ∀ q, zAd A q → B0 q) (p0 n : Nat) (hp : p0 < 117) (hz : zk p0 = 7) (hn : zl p0 = n) {i v : Int32} {j : Nat} (hin : vp_in i n) (hj : i.toNatClampNeg = j) (hv : vp_nar .char v = v) (hdg : decode cc pc = .ok (.castore, 1))
    (kk : ∀ (H1 : Heap) (locs1 : List Loc), va_P G.1 vwCl (zW G A (zU Y p0 j v)) H1 → va_S B0 H0 H1 locs1 → W p l e R s m args below meth c H1 locs1 cells slots Q (F0 m (pc + 1) ls rest)) : W p l e R s m args below meth c H locs cells slots Q (F0 m pc ls (.int v :: .int i :: .ref (A p0) :: rest)) := by
  subst hn; subst hj
  refine va_cast (D := G.1) S.1 S.2.1 hK.1 hP ((zW_D hK.2.2).weaken (fun _ _ _ h => hB _ h)) hS p0 1 (cA := G.2.2.1) (n := zl p0) (f := Y p0) (by rw [zW_get hp]; simp [zc, hz]) rfl hin hdg (fun H1 locs1 hP1 _ hS1 => ?_)
  rw [hv, zW_set (Z := zU Y p0 i.toNatClampNeg v) hp (by simp [zc, hz, zU_upd]) (fun q hq => zU_row hq)] at hP1
  exact kk H1 locs1 hP1 hS1
/-- a row of rows, or of objects -/
theorem zaldq (S : CallFix p m c cc nL s args wsL_law own) (hK : zK G A s) (hP : va_P G.1 vwCl (zW G A Y) H) (p0 t0 : Nat) (hp : p0 < 117) {cA : ClassId} {ty : FieldType} {n : Nat} {f : Nat → Option Nat} (he : zc G A Y p0 = .inl (cA, n, .inr (.inr (.inr (.inr f))))) (ht : (zTy G)[t0]? = some (cA, ty)) (hty : ty.isReference = true) {i : Int32} {q : Nat} (hin : vp_in i n) (hq : f i.toNatClampNeg = some q) (hdg : decode cc pc = .ok (.aaload, 1))
    (kk : W p l e R s m args below meth c H locs cells slots Q (F0 m (pc + 1) ls (.ref q :: rest))) : W p l e R s m args below meth c H locs cells slots Q (F0 m pc ls (.int i :: .ref (A p0) :: rest)) := by
  have hlt : i.toNatClampNeg < n := Nat.not_le.mp fun z => hin (Or.inr z)
  have ha : (zW G A Y)[p0]? = some (A p0, .inl (cA, n, .inr (.inr (.inr (.inr f))))) := by rw [zW_get hp, he]
  exact W.aald (v := .ref q) (ty := ty) S.1 S.2.1 (hP p0 _ ha) ((hK.1.2 t0 _ ht).1 n (fun j => va_rf (f j))) hty (fun z => by cases z) (by show ¬ (i < 0 ∨ (arrV _ _ _).slots.size ≤ _); rw [arrV_size]; exact hin) (by show (arrV _ _ _).slots[_]? = _; rw [arrV_read _ _ hlt, hq]; rfl) rfl rfl hdg kk
/-- the same with numbers that are not negative -/
theorem zaddN (S : CallFix p m c cc nL s args wsL_law own) {a b : Nat} (hdg : decode cc pc = .ok (.iadd, 1)) (kk : W p l e R s m args below meth c H locs cells slots Q (F0 m (pc + 1) ls (.int (nI (a + b)) :: rest))) : W p l e R s m args below meth c H locs cells slots Q (F0 m pc ls (.int (nI b) :: .int (nI a) :: rest)) :=
  lv_iadd S.1 S.2.1 hdg (by rw [nI_add]; exact kk)
theorem zsubN (S : CallFix p m c cc nL s args wsL_law own) {a b : Nat} (h : b ≤ a) (hdg : decode cc pc = .ok (.isub, 1)) (kk : W p l e R s m args below meth c H locs cells slots Q (F0 m (pc + 1) ls (.int (nI (a - b)) :: rest))) : W p l e R s m args below meth c H locs cells slots Q (F0 m pc ls (.int (nI b) :: .int (nI a) :: rest)) :=
  lv_isub S.1 S.2.1 hdg (by rw [pk_sub h]; exact kk)
theorem zmulN (S : CallFix p m c cc nL s args wsL_law own) {a b : Nat} (hdg : decode cc pc = .ok (.imul, 1)) (kk : W p l e R s m args below meth c H locs cells slots Q (F0 m (pc + 1) ls (.int (nI (a * b)) :: rest))) : W p l e R s m args below meth c H locs cells slots Q (F0 m pc ls (.int (nI b) :: .int (nI a) :: rest)) :=
  lv_imul S.1 S.2.1 hdg (by rw [pk_mul]; exact kk)
theorem zldc (S : CallFix p m c cc nL s args wsL_law own) {index : Nat} {v : Int32} (hl : Cond.constant own index v ∈ wsL_law) (hdg : decode cc pc = .ok (.ldc index, 2)) (kk : W p l e R s m args below meth c H locs cells slots Q (F0 m (pc + 2) ls (.int v :: rest))) : W p l e R s m args below meth c H locs cells slots Q (F0 m pc ls rest) :=
  lv_ldc S.1 S.2.1 S.2.2.2.1 (S.2.2.2.2 _ hl) hdg kk
end ZR
section ZN
variable {p : Program} {l : Launch} {e : Env} {R : Room} {s : State} {m : MethodId} {args : Array Value} {below : List Frame} {meth : Method} {c : Code} {H : Heap} {locs : List Loc} {cells slots : Nat} {Q : State → Prop}
variable {cc : ByteArray} {pc nL : Nat} {ls : Array Slot} {rest : List Value} {own : String}
theorem zcmp_eq (S : CallFix p m c cc nL s args wsL_law own) {a b : Nat} (ha : a < 2 ^ 31) (hb : b < 2 ^ 31) {off : Int} {tgt : Nat} (hdg : decode cc pc = .ok (.if_icmp .eq off, 3)) (ht : (pc : Int) + off = (tgt : Int)) (kt : a = b → W p l e R s m args below meth c H locs cells slots Q (F0 m tgt ls rest)) (kf : ¬ (a = b) → W p l e R s m args below meth c H locs cells slots Q (F0 m (pc + 3) ls rest)) : W p l e R s m args below meth c H locs cells slots Q (F0 m pc ls (.int (nI b) :: .int (nI a) :: rest)) :=
  lv_icmp_eq S.1 S.2.1 hdg ht (fun h => kt ((nI_eq ha hb).mp h)) (fun h => kf (fun z => h ((nI_eq ha hb).mpr z)))
theorem zcmp_ne (S : CallFix p m c cc nL s args wsL_law own) {a b : Nat} (ha : a < 2 ^ 31) (hb : b < 2 ^ 31) {off : Int} {tgt : Nat} (hdg : decode cc pc = .ok (.if_icmp .ne off, 3)) (ht : (pc : Int) + off = (tgt : Int)) (kt : a ≠ b → W p l e R s m args below meth c H locs cells slots Q (F0 m tgt ls rest)) (kf : a = b → W p l e R s m args below meth c H locs cells slots Q (F0 m (pc + 3) ls rest)) : W p l e R s m args below meth c H locs cells slots Q (F0 m pc ls (.int (nI b) :: .int (nI a) :: rest)) :=
  lv_icmp_ne S.1 S.2.1 hdg ht (fun h => kt ((not_congr (nI_eq ha hb)).mp h)) (fun h => kf ((nI_eq ha hb).mp h))
theorem zcmp_lt (S : CallFix p m c cc nL s args wsL_law own) {a b : Nat} (ha : a < 2 ^ 31) (hb : b < 2 ^ 31) {off : Int} {tgt : Nat} (hdg : decode cc pc = .ok (.if_icmp .lt off, 3)) (ht : (pc : Int) + off = (tgt : Int)) (kt : a < b → W p l e R s m args below meth c H locs cells slots Q (F0 m tgt ls rest)) (kf : ¬ (a < b) → W p l e R s m args below meth c H locs cells slots Q (F0 m (pc + 3) ls rest)) : W p l e R s m args below meth c H locs cells slots Q (F0 m pc ls (.int (nI b) :: .int (nI a) :: rest)) :=
  lv_icmp_lt S.1 S.2.1 hdg ht (fun h => kt ((nI_ltI ha hb).mp h)) (fun h => kf (fun z => h ((nI_ltI ha hb).mpr z)))
theorem zcmp_ge (S : CallFix p m c cc nL s args wsL_law own) {a b : Nat} (ha : a < 2 ^ 31) (hb : b < 2 ^ 31) {off : Int} {tgt : Nat} (hdg : decode cc pc = .ok (.if_icmp .ge off, 3)) (ht : (pc : Int) + off = (tgt : Int)) (kt : b ≤ a → W p l e R s m args below meth c H locs cells slots Q (F0 m tgt ls rest)) (kf : ¬ (b ≤ a) → W p l e R s m args below meth c H locs cells slots Q (F0 m (pc + 3) ls rest)) : W p l e R s m args below meth c H locs cells slots Q (F0 m pc ls (.int (nI b) :: .int (nI a) :: rest)) :=
  lv_icmp_ge S.1 S.2.1 hdg ht (fun h => kt ((nI_leI hb ha).mp h)) (fun h => kf (fun z => h ((nI_leI hb ha).mpr z)))
theorem zcmp_gt (S : CallFix p m c cc nL s args wsL_law own) {a b : Nat} (ha : a < 2 ^ 31) (hb : b < 2 ^ 31) {off : Int} {tgt : Nat} (hdg : decode cc pc = .ok (.if_icmp .gt off, 3)) (ht : (pc : Int) + off = (tgt : Int)) (kt : b < a → W p l e R s m args below meth c H locs cells slots Q (F0 m tgt ls rest)) (kf : ¬ (b < a) → W p l e R s m args below meth c H locs cells slots Q (F0 m (pc + 3) ls rest)) : W p l e R s m args below meth c H locs cells slots Q (F0 m pc ls (.int (nI b) :: .int (nI a) :: rest)) :=
  lv_icmp_gt S.1 S.2.1 hdg ht (fun h => kt ((nI_ltI hb ha).mp h)) (fun h => kf (fun z => h ((nI_ltI hb ha).mpr z)))
theorem zcmp_le (S : CallFix p m c cc nL s args wsL_law own) {a b : Nat} (ha : a < 2 ^ 31) (hb : b < 2 ^ 31) {off : Int} {tgt : Nat} (hdg : decode cc pc = .ok (.if_icmp .le off, 3)) (ht : (pc : Int) + off = (tgt : Int)) (kt : a ≤ b → W p l e R s m args below meth c H locs cells slots Q (F0 m tgt ls rest)) (kf : ¬ (a ≤ b) → W p l e R s m args below meth c H locs cells slots Q (F0 m (pc + 3) ls rest)) : W p l e R s m args below meth c H locs cells slots Q (F0 m pc ls (.int (nI b) :: .int (nI a) :: rest)) :=
  lv_icmp_le S.1 S.2.1 hdg ht (fun h => kt ((nI_leI ha hb).mp h)) (fun h => kf (fun z => h ((nI_leI ha hb).mpr z)))
theorem zif_eq (S : CallFix p m c cc nL s args wsL_law own) {a : Nat} (ha : a < 2 ^ 31) {off : Int} {tgt : Nat} (hdg : decode cc pc = .ok (.ifCond .eq off, 3)) (ht : (pc : Int) + off = (tgt : Int)) (kt : a = 0 → W p l e R s m args below meth c H locs cells slots Q (F0 m tgt ls rest)) (kf : ¬ (a = 0) → W p l e R s m args below meth c H locs cells slots Q (F0 m (pc + 3) ls rest)) : W p l e R s m args below meth c H locs cells slots Q (F0 m pc ls (.int (nI a) :: rest)) :=
  lv_if_eq S.1 S.2.1 hdg ht (fun h => kt ((nI_eq ha (b := 0) (by decide)).mp h)) (fun h => kf (fun z => h ((nI_eq ha (b := 0) (by decide)).mpr z)))
theorem zif_ne (S : CallFix p m c cc nL s args wsL_law own) {a : Nat} (ha : a < 2 ^ 31) {off : Int} {tgt : Nat} (hdg : decode cc pc = .ok (.ifCond .ne off, 3)) (ht : (pc : Int) + off = (tgt : Int)) (kt : a ≠ 0 → W p l e R s m args below meth c H locs cells slots Q (F0 m tgt ls rest)) (kf : a = 0 → W p l e R s m args below meth c H locs cells slots Q (F0 m (pc + 3) ls rest)) : W p l e R s m args below meth c H locs cells slots Q (F0 m pc ls (.int (nI a) :: rest)) :=
  lv_if_ne S.1 S.2.1 hdg ht (fun h => kt ((not_congr (nI_eq ha (b := 0) (by decide))).mp h)) (fun h => kf ((nI_eq ha (b := 0) (by decide)).mp h))
theorem zif_gt (S : CallFix p m c cc nL s args wsL_law own) {a : Nat} (ha : a < 2 ^ 31) {off : Int} {tgt : Nat} (hdg : decode cc pc = .ok (.ifCond .gt off, 3)) (ht : (pc : Int) + off = (tgt : Int)) (kt : 0 < a → W p l e R s m args below meth c H locs cells slots Q (F0 m tgt ls rest)) (kf : ¬ (0 < a) → W p l e R s m args below meth c H locs cells slots Q (F0 m (pc + 3) ls rest)) : W p l e R s m args below meth c H locs cells slots Q (F0 m pc ls (.int (nI a) :: rest)) :=
  lv_if_gt S.1 S.2.1 hdg ht (fun h => kt ((nI_ltI (a := 0) (by decide) ha).mp h)) (fun h => kf (fun z => h ((nI_ltI (a := 0) (by decide) ha).mpr z)))
theorem zif_le (S : CallFix p m c cc nL s args wsL_law own) {a : Nat} (ha : a < 2 ^ 31) {off : Int} {tgt : Nat} (hdg : decode cc pc = .ok (.ifCond .le off, 3)) (ht : (pc : Int) + off = (tgt : Int)) (kt : a = 0 → W p l e R s m args below meth c H locs cells slots Q (F0 m tgt ls rest)) (kf : ¬ (a = 0) → W p l e R s m args below meth c H locs cells slots Q (F0 m (pc + 3) ls rest)) : W p l e R s m args below meth c H locs cells slots Q (F0 m pc ls (.int (nI a) :: rest)) :=
  lv_if_le S.1 S.2.1 hdg ht (fun h => kt (((nI_leI ha (b := 0) (by decide)).trans (by omega)).mp h)) (fun h => kf (fun z => h (((nI_leI ha (b := 0) (by decide)).trans (by omega)).mpr z)))
theorem zif_lt (S : CallFix p m c cc nL s args wsL_law own) {a : Nat} (ha : a < 2 ^ 31) {off : Int} (hdg : decode cc pc = .ok (.ifCond .lt off, 3)) (ht : ∃ tgt : Nat, (pc : Int) + off = (tgt : Int)) (kf : W p l e R s m args below meth c H locs cells slots Q (F0 m (pc + 3) ls rest)) : W p l e R s m args below meth c H locs cells slots Q (F0 m pc ls (.int (nI a) :: rest)) :=
  lv_if_lt S.1 S.2.1 hdg ht.choose_spec (fun h => absurd h (nI_pos ha)) (fun _ => kf)
theorem zif_ge (S : CallFix p m c cc nL s args wsL_law own) {a : Nat} (ha : a < 2 ^ 31) {off : Int} {tgt : Nat} (hdg : decode cc pc = .ok (.ifCond .ge off, 3)) (ht : (pc : Int) + off = (tgt : Int)) (kt : W p l e R s m args below meth c H locs cells slots Q (F0 m tgt ls rest)) : W p l e R s m args below meth c H locs cells slots Q (F0 m pc ls (.int (nI a) :: rest)) :=
  lv_if_ge S.1 S.2.1 hdg ht (fun _ => kt) (fun h => absurd (nI_pos' ha) h)
end ZN
