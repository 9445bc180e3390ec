/-! ===== constructors: worlds that grow ===== -/
/-- what the tables say of int[][] -/
def zAOA (U : State) : Prop := (Cond.arrayOver (.array .int)).before #[] U = true
theorem zAOA.moved {u U : State} (hvm : u.vm.Alike U.vm) (h : zAOA u) : zAOA U := over_moved (a := #[]) (a' := #[]) hvm h
def zKc (G : zG) (U : State) : Prop := va_K G.1 vwCl (zTy G) U ∧ zN U ∧ va_AO "FuzzyFinder$Letters" U ∧ zAOA U
theorem zKc.warm {G : zG} {s U : State} (hW : s.WarmedH U.vm) (h : zKc G s) : zKc G U := ⟨va_K.moved hW.alike h.1, zN.warm hW h.2.1, h.2.2.1.moved hW.alike, h.2.2.2.moved hW.alike⟩
def zCP (G : zG) (X : va_W) (sz : Nat) (U : State) : Prop := U.heap.size = sz ∧ va_P G.1 vwCl X U.heap ∧ zKc G U ∧ va_D (fun _ => True) X
theorem zcBlind {G : zG} {X : va_W} {sz : Nat} {as : List Value} : FrameBlind (va_Pc as (zCP G X sz)) := fun a U g mk h => ⟨h.1, h.2.1, h.2.2.1, ⟨va_K.moved (u := U) (U := U.calling g mk a) (Vm.Alike.refl U.vm) h.2.2.2.1.1, zN.same rfl h.2.2.2.1.2.1, va_AO.moved (u := U) (U := U.calling g mk a) (Vm.Alike.refl U.vm) h.2.2.2.1.2.2.1, zAOA.moved (u := U) (U := U.calling g mk a) (Vm.Alike.refl U.vm) h.2.2.2.1.2.2.2⟩, h.2.2.2.2⟩
/-- a constructor: the blank object's world X becomes F u, u the new addresses -/
def ZC (l : Launch) (y : MethodName) (b : ByteArray) (n fr lo mc ms : Nat) (G : zG) (X : va_W) (q0 sz : Nat) (F : (Nat → Nat → Nat) → va_W) : Prop :=
  Met l y (zWs y b n none) { frames := fr, cells := mc, slots := ms, locals := lo } (va_Pc [.ref q0] (zCP G X sz)) (va_Qv (fun _ : Nat → Nat → Nat => True) (fun u t => va_P G.1 vwCl (F u) t.heap ∧ va_D (va_A X sz) (F u)) (va_A X sz)) mc ms (va_A X sz)
theorem ZC.enter {l : Launch} {y : MethodName} {b : ByteArray} {n fr lo mc ms : Nat} {G : zG} {X : va_W} {q0 sz : Nat} {F : (Nat → Nat → Nat) → va_W} (hy : plainName y.cls = true) (hy2 : y.name = "<init>") (hn : (lg_sl [Value.ref q0]).length ≤ n)
    (body : ∀ (p : Program) (e : Env) (s : State) (m : MethodId) (args : Array Value) (below : List Frame) (meth : Method) (c : Code) (Q : State → Prop), p.tables.exec = Jvm.exec → c.code = b → CallFix p m c b n s args wsL_law y.cls → zKc G s → meth.name = "<init>" → (∀ q, s.heap.size ≤ q → va_A X sz q) →
      (∀ (u : Nat → Nat → Nat) (H : Heap) (locs : List Loc) (pc cells slots : Nat) (ls : Array Slot), decode b pc = .ok (.return_, 1) → va_P G.1 vwCl (F u) H → va_D (va_A X sz) (F u) → va_S (va_A X sz) s.heap H locs → cells ≤ mc → slots ≤ ms → W p l e { frames := fr, cells := mc, slots := ms, locals := lo } s m args below meth c H locs cells slots Q (F0 m pc ls [])) →
      ∀ (H : Heap) (ls : Array Slot), va_P G.1 vwCl X H → va_D (va_A X sz) X → va_S (va_A X sz) s.heap H [] → lv_has ls n (lv_args 0 [.ref q0]) → W p l e { frames := fr, cells := mc, slots := ms, locals := lo } s m args below meth c H [] 0 0 Q (F0 m 0 ls [])) : ZC l y b n fr lo mc ms G X q0 sz F := by
  refine Met.ofW (cc := b) (maxL := n) (ret := none) hy rfl ?_
  intro p e s m args below meth c s₁ B hml hv
  obtain ⟨rfl, hsz, hP, hK, hD⟩ := hv
  have hts := atoms_spec (ws := zWs y b n none) B.pre
  have hown : s.vm.findClass y.cls = some m.cls := findClass_of_methodNamed B.named
  have hin : meth.name = "<init>" := (name_of_methodNamed B.named B.method).1.trans hy2
  have hl := lv_entry [Value.ref q0] (n := n) hn
  rw [lg_entry_eq]
  refine body p e s m _ below meth c _ B.exec B.bytes ⟨B.exec, B.bytes, hml, hown, zWs_in hts⟩ hK hin (fun q h => Or.inr (by omega)) ?_ s.heap _ hP hD.self va_S.rf hl
  intro u H locs pc cells slots ls hdg hP' hD' hS hc hs
  refine W.widen (k := mc) (n := ms) hc hs ?_
  exact W.vret B.exec B.bytes B.returns (fun t ht hW => ⟨⟨u, rfl, trivial, by rw [ht]; exact hP', hD'⟩, hS.F ht⟩) hS.2.2 hdg B.notSynchronized
section ZCR
variable {p : Program} {l : Launch} {e : Env} {R : Room} {s : State} {m : MethodId} {args : Array Value} {below : List Frame} {meth : Method} {c : Code} {H : Heap} {locs : List Loc} {cells slots : Nat} {Q : State → Prop}
variable {cc : ByteArray} {pc nL : Nat} {ls : Array Slot} {rest : List Value} {G : zG} {ws W0 : va_W} {B0 : Nat → Prop} {H0 : Heap} {own : String}
theorem ZC.callN (S : CallFix p m c cc nL s args wsL_law own) (hK : zKc G s) {X : va_W} (hP : va_P G.1 vwCl X H) (hD : va_D B0 X) (hS : va_S B0 H0 H locs) (hA : ∀ q, H0.size ≤ q → B0 q) {y : MethodName} {b : ByteArray} {n fr lo mc ms q0 : Nat} {F : (Nat → Nat → Nat) → va_W}
    (hM : ∀ sz, ZC l y b n fr lo mc ms G X q0 sz F) {index : Nat} (hn : (own, index, y) ∈ zNM) (hw : ∀ w ∈ ([.instanceMethod y, .initialized y.cls, .code y b n none] : List Cond), w ∈ wsL_law)
    (hd : y.cls ≠ "java/lang/invoke/MethodHandle" ∧ y.cls ≠ "java/lang/invoke/VarHandle" ∧ (parseMethodDescriptor y.desc).map (fun d => d.parameters.length) = some 0) (hy2 : y.name = "<init>") (hR : fr + 1 ≤ R.frames ∧ 8 + (n + 11) + lo ≤ R.locals)
    (hr8 : (rest.map fun v => v.category).sum ≤ 8) (hl : ls.size = nL) (hdg : decode cc pc = .ok (.invokespecial index, 3)) (hf : cells + mc ≤ R.cells ∧ slots + ms ≤ R.slots)
    (kk : ∀ (u : Nat → Nat → Nat) (H1 : Heap) (locs1 : List Loc), va_P G.1 vwCl (F u) H1 → va_D B0 (F u) → va_S B0 H0 H1 locs1 → W p l e R s m args below meth c H1 locs1 (cells + mc) (slots + ms) Q (F0 m (pc + 3) ls rest)) : W p l e R s m args below meth c H locs cells slots Q (F0 m pc ls (.ref q0 :: rest)) := by
  have hT := S.2.2.2.2
  have hfr : ∀ q, va_A X H.size q → B0 q := fun q h => h.elim (fun ⟨k, e, h⟩ => hD.2 k _ h) (fun h => hA q (Nat.le_trans hS.1 h))
  refine va_callv (va_runIN (As := []) (rest := rest) (host := "FuzzyFinder") S (hM H.size) ⟨va_cnB 0 hT (zGood (hw _ (by simp))) rfl rfl rfl (hK.2.1.2 _ hn) (hT _ (hw _ (by simp))) hd hR, hy2, hT _ (hw _ (by simp))⟩ ⟨zcBlind, fun U hU hW => ⟨rfl, by rw [hU], by rw [hU]; exact hP, hK.warm hW, hD.weaken (fun _ _ _ _ => trivial)⟩⟩ rfl rfl hl rfl (lv_room hr8) hdg hf) hS (fun q _ h => hfr q h) hfr (fun u t H1 locs1 ht hvm hw9 hb hz hk1 hS1 => ?_)
  obtain ⟨hb1, hb2⟩ := hb
  rw [ht] at hb1
  exact kk u H1 locs1 hb1 (hb2.weaken (fun _ _ _ h => hfr _ h)) hS1
theorem zc_mid {q0 : Nat} {x : Nat × va_E} {T : va_W} : (W0 ++ x :: T)[W0.length]? = some x := by simp
theorem zc_set {x y : Nat × va_E} {T : va_W} : (W0 ++ x :: T).set W0.length y = W0 ++ y :: T := by simp
theorem zcNewI (S : CallFix p m c cc nL s args wsL_law own) (hK : zKc G s) (hP : va_P G.1 vwCl ws H) (hD : va_D B0 ws) (hS : va_S B0 H0 H locs) (hA : ∀ q, H0.size ≤ q → B0 q) {k : Nat} (hk : k ≤ 15000) (hcells : cells + 1 ≤ R.cells) (hslots : slots + k ≤ R.slots) (hdg : decode cc pc = .ok (.newarray .int, 2))
    (kk : ∀ (q : Nat) (H1 : Heap), va_P G.1 vwCl (ws ++ [(q, .inl (G.2.1, k, .inl (fun _ => 0)))]) H1 → va_D B0 (ws ++ [(q, .inl (G.2.1, k, .inl (fun _ => 0)))]) → va_S B0 H0 H1 locs → W p l e R s m args below meth c H1 locs (cells + 1) (slots + k) Q (F0 m (pc + 2) ls (.ref q :: rest))) : W p l e R s m args below meth c H locs cells slots Q (F0 m pc ls (.int (nI k) :: rest)) := by
  refine va_newa (atype := .int) (n := nI k) (N' := k) (a0 := (k, .inl (fun _ => 0))) (ty := .int) S.1 S.2.1 (S.2.2.2.2 (.arrayClass .int) (List.mem_of_getElem? (i := 45) (by decide +kernel))) rfl hK.1 hP hD hS hA (fun cA => rfl) (nI_pos (by omega)) (nI_clamp (by omega)) (by show k * 4 ≤ _; omega) hcells hslots hdg (fun q cA H1 hK9 hP9 hD9 hS9 => ?_)
  have e1 : s.vm.findClass ("[" ++ FieldType.int.toString) = some cA := (hK9.2 4 _ rfl).2
  have e2 : s.vm.findClass ("[" ++ FieldType.int.toString) = some G.2.1 := (hK.1.2 0 _ rfl).2
  have e : cA = G.2.1 := Option.some.inj (e1.symm.trans e2)
  subst e
  exact kk q H1 hP9 hD9 hS9
theorem zcNewC (S : CallFix p m c cc nL s args wsL_law own) (hK : zKc G s) (hP : va_P G.1 vwCl ws H) (hD : va_D B0 ws) (hS : va_S B0 H0 H locs) (hA : ∀ q, H0.size ≤ q → B0 q) {k : Nat} (hk : k ≤ 15000) (hcells : cells + 1 ≤ R.cells) (hslots : slots + k ≤ R.slots) (hdg : decode cc pc = .ok (.newarray .char, 2))
    (kk : ∀ (q : Nat) (H1 : Heap), va_P G.1 vwCl (ws ++ [(q, .inl (G.2.2.1, k, .inl (fun _ => 0)))]) H1 → va_D B0 (ws ++ [(q, .inl (G.2.2.1, k, .inl (fun _ => 0)))]) → va_S B0 H0 H1 locs → W p l e R s m args below meth c H1 locs (cells + 1) (slots + k) Q (F0 m (pc + 2) ls (.ref q :: rest))) : W p l e R s m args below meth c H locs cells slots Q (F0 m pc ls (.int (nI k) :: rest)) := by
  refine va_newa (atype := .char) (n := nI k) (N' := k) (a0 := (k, .inl (fun _ => 0))) (ty := .char) S.1 S.2.1 (S.2.2.2.2 (.arrayClass .char) (List.mem_of_getElem? (i := 12) (by decide +kernel))) rfl hK.1 hP hD hS hA (fun cA => rfl) (nI_pos (by omega)) (nI_clamp (by omega)) (by show k * 2 ≤ _; omega) hcells hslots hdg (fun q cA H1 hK9 hP9 hD9 hS9 => ?_)
  have e1 : s.vm.findClass ("[" ++ FieldType.char.toString) = some cA := (hK9.2 4 _ rfl).2
  have e2 : s.vm.findClass ("[" ++ FieldType.char.toString) = some G.2.2.1 := (hK.1.2 1 _ rfl).2
  have e : cA = G.2.2.1 := Option.some.inj (e1.symm.trans e2)
  subst e
  exact kk q H1 hP9 hD9 hS9
theorem zcPF (S : CallFix p m c cc nL s args wsL_law own) (hK : zKc G s) {q0 ci : Nat} {fs : List Value} {T : va_W} (hP : va_P G.1 vwCl (W0 ++ (q0, .inr (ci, fs)) :: T) H) (hD : va_D B0 (W0 ++ (q0, .inr (ci, fs)) :: T)) (hS : va_S B0 H0 H locs) {C : String} {T9 : u_T} {N : Nat} (hc : vwCl[ci]? = some (C, T9, N)) (hin : ∀ w ∈ u_ws C T9 N, w ∈ wsL_law) (ty0 : Nat → FieldType) (hty : ∀ k, k < N → parseFieldDescriptor (T9 k).2.2.1 = some (ty0 k)) (hnm : ∀ a, a < N → ∀ b, b < N → a ≠ b → (T9 a).2.1 ≠ (T9 b).2.1)
    (k : Nat) (hk : k < N) {index : Nat} (hl : Cond.fieldLink own index (T9 k).1 (T9 k).2.1 (T9 k).2.2.1 ∈ wsL_law) (hfin : (T9 k).2.2.2 = true) (hin2 : meth.name = "<init>") (hdecl : (T9 k).1 = own) {ty : FieldType} {v : Value} (hd : parseFieldDescriptor (T9 k).2.2.1 = some ty) (hn : narrow ty v = v) (hfit : fits ty v = true) (hlen : k < fs.length) (hdg : decode cc pc = .ok (.putfield index, 3))
    (kk : ∀ (H1 : Heap) (locs1 : List Loc), va_P G.1 vwCl (W0 ++ (q0, .inr (ci, fs.set k v)) :: T) H1 → va_D B0 (W0 ++ (q0, .inr (ci, fs.set k v)) :: T) → va_S B0 H0 H1 locs1 → W p l e R s m args below meth c H1 locs1 cells slots Q (F0 m (pc + 3) ls rest)) : W p l e R s m args below meth c H locs cells slots Q (F0 m pc ls (v :: .ref q0 :: rest)) := by
  refine va_putF S.1 S.2.1 S.2.2.2.2 hin ty0 hty hnm S.2.2.2.1 hK.1 hP hD hS W0.length (zc_mid (q0 := q0)) hc k hk (S.2.2.2.2 _ hl) (fun _ h => h) hfin hin2 hdecl hd hn hfit hlen hdg (fun H1 locs1 hP1 hD1 hS1 => ?_)
  rw [zc_set] at hP1 hD1
  exact kk H1 locs1 hP1 hD1 hS1
theorem zcPI (S : CallFix p m c cc nL s args wsL_law own) (hK : zKc G s) {q0 ci : Nat} {fs : List Value} {T : va_W} (hP : va_P G.1 vwCl (W0 ++ (q0, .inr (ci, fs)) :: T) H) (hD : va_D B0 (W0 ++ (q0, .inr (ci, fs)) :: T)) (hS : va_S B0 H0 H locs) {C : String} {T9 : u_T} {N : Nat} (hc : vwCl[ci]? = some (C, T9, N)) (hin : ∀ w ∈ u_ws C T9 N, w ∈ wsL_law) (ty0 : Nat → FieldType) (hty : ∀ k, k < N → parseFieldDescriptor (T9 k).2.2.1 = some (ty0 k)) (hnm : ∀ a, a < N → ∀ b, b < N → a ≠ b → (T9 a).2.1 ≠ (T9 b).2.1)
    (k : Nat) (hk : k < N) {index : Nat} (hl : Cond.fieldLink own index (T9 k).1 (T9 k).2.1 (T9 k).2.2.1 ∈ wsL_law) (hfin : (T9 k).2.2.2 = false) {ty : FieldType} {v : Value} (hd : parseFieldDescriptor (T9 k).2.2.1 = some ty) (hn : narrow ty v = v) (hfit : fits ty v = true) (hlen : k < fs.length) (hdg : decode cc pc = .ok (.putfield index, 3))
    (kk : ∀ (H1 : Heap) (locs1 : List Loc), va_P G.1 vwCl (W0 ++ (q0, .inr (ci, fs.set k v)) :: T) H1 → va_D B0 (W0 ++ (q0, .inr (ci, fs.set k v)) :: T) → va_S B0 H0 H1 locs1 → W p l e R s m args below meth c H1 locs1 cells slots Q (F0 m (pc + 3) ls rest)) : W p l e R s m args below meth c H locs cells slots Q (F0 m pc ls (v :: .ref q0 :: rest)) := by
  refine va_put S.1 S.2.1 S.2.2.2.2 hin ty0 hty hnm S.2.2.2.1 hK.1 hP hD hS W0.length (zc_mid (q0 := q0)) hc k hk (S.2.2.2.2 _ hl) (fun _ h => h) hfin hd hn hfit hlen hdg (fun H1 locs1 hP1 hD1 hS1 => ?_)
  rw [zc_set] at hP1 hD1
  exact kk H1 locs1 hP1 hD1 hS1
end ZCR
