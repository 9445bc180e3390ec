/-! ===== the law: its reads, its calls ===== -/
def zch (x : Int32) : Nat := x.toBitVec.toNat % 65536
theorem zch_lt (x : Int32) : zch x < 65536 := Nat.mod_lt _ (by decide)
def zbz (x : Int32) : Nat := if x = 0 then 0 else 1
theorem zbz_le (x : Int32) : zbz x ≤ 1 := by unfold zbz; split <;> omega
section ZL
variable {p : Program} {l : Launch} {e : Env} {R : Room} {s : State} {m : MethodId} {args : Array Value} {below : List Frame} {meth : Method} {c : Code} {H : Heap} {locs : List Loc} {cells slots : Nat} {Q : State → Prop}
variable {cc : ByteArray} {pc nL : Nat} {ls : Array Slot} {rest : List Value} {G : zG} {ws W0 : va_W} {B0 : Nat → Prop} {H0 : Heap} {own : String}
theorem zsl (S : CallFix p m c cc nL s args wsL_law own) {b L : Nat} {xs : Nat → Int32} (hX0 : va_X b L xs s s.heap) (hbl : b < s.heap.size) (hS : va_S (fun q => s.heap.size ≤ q) s.heap H locs) {j : Nat} (hj : j < L) (hL : L ≤ 2048) (hdg : decode cc pc = .ok (.iaload, 1))
    (kk : W p l e R s m args below meth c H locs cells slots Q (F0 m (pc + 1) ls (.int (xs j) :: rest))) : W p l e R s m args below meth c H locs cells slots Q (F0 m pc ls (.int (nI j) :: .ref b :: rest)) :=
  va_sld S.1 S.2.1 hX0 hbl (Nat.not_le.mpr hbl) hS (vp_in_nI hj (by omega)) hdg (by rw [nI_clamp (by omega)]; exact kk)
theorem zi2c (S : CallFix p m c cc nL s args wsL_law own) {x : Int32} (hdg : decode cc pc = .ok (.i2c, 1))
    (kk : W p l e R s m args below meth c H locs cells slots Q (F0 m (pc + 1) ls (.int (nI (zch x)) :: rest))) : W p l e R s m args below meth c H locs cells slots Q (F0 m pc ls (.int x :: rest)) :=
  lv_i2c S.1 S.2.1 hdg (pk_char x) kk
theorem zbool (S : CallFix p m c cc nL s args wsL_law own) {x : Int32} (d1 : decode cc pc = .ok (.ifCond .eq 7, 3)) (d2 : decode cc (pc + 3) = .ok (.iconst 1, 1)) (d3 : decode cc (pc + 4) = .ok (.goto 4, 3)) (d4 : decode cc (pc + 7) = .ok (.iconst 0, 1))
    (kk : W p l e R s m args below meth c H locs cells slots Q (F0 m (pc + 8) ls (.int (nI (zbz x)) :: rest))) : W p l e R s m args below meth c H locs cells slots Q (F0 m pc ls (.int x :: rest)) := by
  refine lv_if_eq (tgt := pc + 7) S.1 S.2.1 d1 (by omega) (fun h => ?_) (fun h => ?_)
  · refine lv_iconst (v := nI 0) S.1 S.2.1 d4 (by decide) ?_
    have e9 : zbz x = 0 := if_pos h
    rw [e9] at kk; exact kk
  · refine lv_iconst (v := nI 1) S.1 S.2.1 d2 (by decide) ?_
    refine lv_goto (tgt := pc + 8) S.1 S.2.1 d3 (by omega) ?_
    have e9 : zbz x = 1 := if_neg h
    rw [e9] at kk; exact kk
theorem ZC.callI (S : CallFix p m c cc nL s args wsL_law own) (hK : zKc G s) {X : va_W} (hP : va_P G.1 vwCl X H) (hD : va_D B0 X) (hS : va_S B0 H0 H locs) (hA : ∀ q, H0.size ≤ q → B0 q) {y : MethodName} {b : ByteArray} {n fr lo mc ms q0 : Nat} {F : (Nat → Nat → Nat) → va_W}
    (hM : ∀ sz, ZC l y b n fr lo mc ms G X q0 sz F) {index : Nat} (hw : ∀ w ∈ ([.methodLink own index y, .instanceMethod y, .initialized y.cls, .code y b n none] : List Cond), w ∈ wsL_law)
    (hd : y.cls ≠ "java/lang/invoke/MethodHandle" ∧ y.cls ≠ "java/lang/invoke/VarHandle" ∧ (parseMethodDescriptor y.desc).map (fun d => d.parameters.length) = some 0) (hy2 : y.name = "<init>") (hR : fr + 1 ≤ R.frames ∧ 8 + (n + 11) + lo ≤ R.locals)
    (hr8 : (rest.map fun v => v.category).sum ≤ 8) (hl : ls.size = nL) (hdg : decode cc pc = .ok (.invokespecial index, 3)) (hf : cells + mc ≤ R.cells ∧ slots + ms ≤ R.slots)
    (kk : ∀ (u : Nat → Nat → Nat) (H1 : Heap) (locs1 : List Loc), va_P G.1 vwCl (F u) H1 → va_D B0 (F u) → va_S B0 H0 H1 locs1 → W p l e R s m args below meth c H1 locs1 (cells + mc) (slots + ms) Q (F0 m (pc + 3) ls rest)) : W p l e R s m args below meth c H locs cells slots Q (F0 m pc ls (.ref q0 :: rest)) := by
  have hT := S.2.2.2.2
  have hfr : ∀ q, va_A X H.size q → B0 q := fun q h => h.elim (fun ⟨k, e, h⟩ => hD.2 k _ h) (fun h => hA q (Nat.le_trans hS.1 h))
  refine va_callv (va_runI (As := []) (rest := rest) S (hM H.size) (cwI 0 hT (zGood (hw _ (by simp))) rfl rfl rfl (hT _ (hw _ (by simp))) (hT _ (hw _ (by simp))) (hT _ (hw _ (by simp))) hy2 hd hR) ⟨zcBlind, fun U hU hW => ⟨rfl, by rw [hU], by rw [hU]; exact hP, hK.warm hW, hD.weaken (fun _ _ _ _ => trivial)⟩⟩ rfl rfl hl rfl (lv_room hr8) hdg hf) hS (fun q _ h => hfr q h) hfr (fun u t H1 locs1 ht hvm hw9 hb hz hk1 hS1 => ?_)
  obtain ⟨hb1, hb2⟩ := hb
  rw [ht] at hb1
  exact kk u H1 locs1 hb1 (hb2.weaken (fun _ _ _ h => hfr _ h)) hS1
end ZL
theorem zeX5_init : yX5_init.cls ≠ "java/lang/invoke/MethodHandle" ∧ yX5_init.cls ≠ "java/lang/invoke/VarHandle" ∧ (parseMethodDescriptor yX5_init.desc).map (fun d => d.parameters.length) = some 0 := by decide +kernel
theorem zwL_9 : ∀ w ∈ ([.methodLink RL 9 yX5_init, .instanceMethod yX5_init, .initialized yX5_init.cls, .code yX5_init cX5_init 1 none] : List Cond), w ∈ wsL_law := List.forall_mem_cons.mpr ⟨List.mem_of_getElem? (i := 6) (by decide +kernel), List.forall_mem_cons.mpr ⟨List.mem_of_getElem? (i := 7) (by decide +kernel), List.forall_mem_cons.mpr ⟨List.mem_of_getElem? (i := 2) (by decide +kernel), List.forall_mem_cons.mpr ⟨List.mem_of_getElem? (i := 8) (by decide +kernel), fun _ h => absurd h List.not_mem_nil⟩⟩⟩⟩
theorem zeX6_init : yX6_init.cls ≠ "java/lang/invoke/MethodHandle" ∧ yX6_init.cls ≠ "java/lang/invoke/VarHandle" ∧ (parseMethodDescriptor yX6_init.desc).map (fun d => d.parameters.length) = some 0 := by decide +kernel
theorem zwL_12 : ∀ w ∈ ([.methodLink RL 12 yX6_init, .instanceMethod yX6_init, .initialized yX6_init.cls, .code yX6_init cX6_init 1 none] : List Cond), w ∈ wsL_law := List.forall_mem_cons.mpr ⟨List.mem_of_getElem? (i := 84) (by decide +kernel), List.forall_mem_cons.mpr ⟨List.mem_of_getElem? (i := 85) (by decide +kernel), List.forall_mem_cons.mpr ⟨List.mem_of_getElem? (i := 5) (by decide +kernel), List.forall_mem_cons.mpr ⟨List.mem_of_getElem? (i := 86) (by decide +kernel), fun _ h => absurd h List.not_mem_nil⟩⟩⟩⟩
theorem zeX5_type : yX5_type.cls ≠ "java/lang/invoke/MethodHandle" ∧ yX5_type.cls ≠ "java/lang/invoke/VarHandle" ∧ (parseMethodDescriptor yX5_type.desc).map (fun d => d.parameters.length) = some 1 := by decide +kernel
theorem zwL_13 : ∀ w ∈ ([.methodLink RL 13 yX5_type, .instanceMethod yX5_type, .selects yX5_type.cls yX5_type yX5_type, .initialized yX5_type.cls, .code yX5_type cX5_type 2 (some .boolean)] : List Cond), w ∈ wsL_law := List.forall_mem_cons.mpr ⟨List.mem_of_getElem? (i := 107) (by decide +kernel), List.forall_mem_cons.mpr ⟨List.mem_of_getElem? (i := 108) (by decide +kernel), List.forall_mem_cons.mpr ⟨List.mem_of_getElem? (i := 109) (by decide +kernel), List.forall_mem_cons.mpr ⟨List.mem_of_getElem? (i := 2) (by decide +kernel), List.forall_mem_cons.mpr ⟨List.mem_of_getElem? (i := 110) (by decide +kernel), fun _ h => absurd h List.not_mem_nil⟩⟩⟩⟩⟩
theorem zeX6_type : yX6_type.cls ≠ "java/lang/invoke/MethodHandle" ∧ yX6_type.cls ≠ "java/lang/invoke/VarHandle" ∧ (parseMethodDescriptor yX6_type.desc).map (fun d => d.parameters.length) = some 1 := by decide +kernel
theorem zwL_17 : ∀ w ∈ ([.methodLink RL 17 yX6_type, .instanceMethod yX6_type, .selects yX6_type.cls yX6_type yX6_type, .initialized yX6_type.cls, .code yX6_type cX6_type 2 (some .boolean)] : List Cond), w ∈ wsL_law := List.forall_mem_cons.mpr ⟨List.mem_of_getElem? (i := 111) (by decide +kernel), List.forall_mem_cons.mpr ⟨List.mem_of_getElem? (i := 112) (by decide +kernel), List.forall_mem_cons.mpr ⟨List.mem_of_getElem? (i := 113) (by decide +kernel), List.forall_mem_cons.mpr ⟨List.mem_of_getElem? (i := 5) (by decide +kernel), List.forall_mem_cons.mpr ⟨List.mem_of_getElem? (i := 114) (by decide +kernel), fun _ h => absurd h List.not_mem_nil⟩⟩⟩⟩⟩
theorem zeX5_compile : yX5_compile.cls ≠ "java/lang/invoke/MethodHandle" ∧ yX5_compile.cls ≠ "java/lang/invoke/VarHandle" ∧ (parseMethodDescriptor yX5_compile.desc).map (fun d => d.parameters.length) = some 0 := by decide +kernel
theorem zwL_18 : ∀ w ∈ ([.methodLink RL 18 yX5_compile, .instanceMethod yX5_compile, .selects yX5_compile.cls yX5_compile yX5_compile, .initialized yX5_compile.cls, .code yX5_compile cX5_compile 2 (some .int)] : List Cond), w ∈ wsL_law := List.forall_mem_cons.mpr ⟨List.mem_of_getElem? (i := 116) (by decide +kernel), List.forall_mem_cons.mpr ⟨List.mem_of_getElem? (i := 117) (by decide +kernel), List.forall_mem_cons.mpr ⟨List.mem_of_getElem? (i := 118) (by decide +kernel), List.forall_mem_cons.mpr ⟨List.mem_of_getElem? (i := 2) (by decide +kernel), List.forall_mem_cons.mpr ⟨List.mem_of_getElem? (i := 119) (by decide +kernel), fun _ h => absurd h List.not_mem_nil⟩⟩⟩⟩⟩
theorem zeX6_compile : yX6_compile.cls ≠ "java/lang/invoke/MethodHandle" ∧ yX6_compile.cls ≠ "java/lang/invoke/VarHandle" ∧ (parseMethodDescriptor yX6_compile.desc).map (fun d => d.parameters.length) = some 0 := by decide +kernel
theorem zwL_22 : ∀ w ∈ ([.methodLink RL 22 yX6_compile, .instanceMethod yX6_compile, .selects yX6_compile.cls yX6_compile yX6_compile, .initialized yX6_compile.cls, .code yX6_compile cX6_compile 3 (some .int)] : List Cond), w ∈ wsL_law := List.forall_mem_cons.mpr ⟨List.mem_of_getElem? (i := 220) (by decide +kernel), List.forall_mem_cons.mpr ⟨List.mem_of_getElem? (i := 221) (by decide +kernel), List.forall_mem_cons.mpr ⟨List.mem_of_getElem? (i := 222) (by decide +kernel), List.forall_mem_cons.mpr ⟨List.mem_of_getElem? (i := 5) (by decide +kernel), List.forall_mem_cons.mpr ⟨List.mem_of_getElem? (i := 223) (by decide +kernel), fun _ h => absurd h List.not_mem_nil⟩⟩⟩⟩⟩
theorem zeX5_nodes : yX5_nodes.cls ≠ "java/lang/invoke/MethodHandle" ∧ yX5_nodes.cls ≠ "java/lang/invoke/VarHandle" ∧ (parseMethodDescriptor yX5_nodes.desc).map (fun d => d.parameters.length) = some 0 := by decide +kernel
theorem zwL_23 : ∀ w ∈ ([.methodLink RL 23 yX5_nodes, .instanceMethod yX5_nodes, .selects yX5_nodes.cls yX5_nodes yX5_nodes, .initialized yX5_nodes.cls, .code yX5_nodes cX5_nodes 1 (some .int)] : List Cond), w ∈ wsL_law := List.forall_mem_cons.mpr ⟨List.mem_of_getElem? (i := 273) (by decide +kernel), List.forall_mem_cons.mpr ⟨List.mem_of_getElem? (i := 274) (by decide +kernel), List.forall_mem_cons.mpr ⟨List.mem_of_getElem? (i := 275) (by decide +kernel), List.forall_mem_cons.mpr ⟨List.mem_of_getElem? (i := 2) (by decide +kernel), List.forall_mem_cons.mpr ⟨List.mem_of_getElem? (i := 276) (by decide +kernel), fun _ h => absurd h List.not_mem_nil⟩⟩⟩⟩⟩
theorem zeX6_nodes : yX6_nodes.cls ≠ "java/lang/invoke/MethodHandle" ∧ yX6_nodes.cls ≠ "java/lang/invoke/VarHandle" ∧ (parseMethodDescriptor yX6_nodes.desc).map (fun d => d.parameters.length) = some 0 := by decide +kernel
theorem zwL_26 : ∀ w ∈ ([.methodLink RL 26 yX6_nodes, .instanceMethod yX6_nodes, .selects yX6_nodes.cls yX6_nodes yX6_nodes, .initialized yX6_nodes.cls, .code yX6_nodes cX6_nodes 1 (some .int)] : List Cond), w ∈ wsL_law := List.forall_mem_cons.mpr ⟨List.mem_of_getElem? (i := 277) (by decide +kernel), List.forall_mem_cons.mpr ⟨List.mem_of_getElem? (i := 278) (by decide +kernel), List.forall_mem_cons.mpr ⟨List.mem_of_getElem? (i := 279) (by decide +kernel), List.forall_mem_cons.mpr ⟨List.mem_of_getElem? (i := 5) (by decide +kernel), List.forall_mem_cons.mpr ⟨List.mem_of_getElem? (i := 280) (by decide +kernel), fun _ h => absurd h List.not_mem_nil⟩⟩⟩⟩⟩
theorem zeX5_weights : yX5_weights.cls ≠ "java/lang/invoke/MethodHandle" ∧ yX5_weights.cls ≠ "java/lang/invoke/VarHandle" ∧ (parseMethodDescriptor yX5_weights.desc).map (fun d => d.parameters.length) = some 3 := by decide +kernel
theorem zwL_27 : ∀ w ∈ ([.methodLink RL 27 yX5_weights, .instanceMethod yX5_weights, .selects yX5_weights.cls yX5_weights yX5_weights, .initialized yX5_weights.cls, .code yX5_weights cX5_weights 4 (some .boolean)] : List Cond), w ∈ wsL_law := List.forall_mem_cons.mpr ⟨List.mem_of_getElem? (i := 281) (by decide +kernel), List.forall_mem_cons.mpr ⟨List.mem_of_getElem? (i := 282) (by decide +kernel), List.forall_mem_cons.mpr ⟨List.mem_of_getElem? (i := 283) (by decide +kernel), List.forall_mem_cons.mpr ⟨List.mem_of_getElem? (i := 2) (by decide +kernel), List.forall_mem_cons.mpr ⟨List.mem_of_getElem? (i := 284) (by decide +kernel), fun _ h => absurd h List.not_mem_nil⟩⟩⟩⟩⟩
theorem zeX6_weights : yX6_weights.cls ≠ "java/lang/invoke/MethodHandle" ∧ yX6_weights.cls ≠ "java/lang/invoke/VarHandle" ∧ (parseMethodDescriptor yX6_weights.desc).map (fun d => d.parameters.length) = some 3 := by decide +kernel
theorem zwL_31 : ∀ w ∈ ([.methodLink RL 31 yX6_weights, .instanceMethod yX6_weights, .selects yX6_weights.cls yX6_weights yX6_weights, .initialized yX6_weights.cls, .code yX6_weights cX6_weights 4 (some .boolean)] : List Cond), w ∈ wsL_law := List.forall_mem_cons.mpr ⟨List.mem_of_getElem? (i := 292) (by decide +kernel), List.forall_mem_cons.mpr ⟨List.mem_of_getElem? (i := 293) (by decide +kernel), List.forall_mem_cons.mpr ⟨List.mem_of_getElem? (i := 294) (by decide +kernel), List.forall_mem_cons.mpr ⟨List.mem_of_getElem? (i := 5) (by decide +kernel), List.forall_mem_cons.mpr ⟨List.mem_of_getElem? (i := 295) (by decide +kernel), fun _ h => absurd h List.not_mem_nil⟩⟩⟩⟩⟩
theorem zeX5_bound : yX5_bound.cls ≠ "java/lang/invoke/MethodHandle" ∧ yX5_bound.cls ≠ "java/lang/invoke/VarHandle" ∧ (parseMethodDescriptor yX5_bound.desc).map (fun d => d.parameters.length) = some 1 := by decide +kernel
theorem zwL_32 : ∀ w ∈ ([.methodLink RL 32 yX5_bound, .instanceMethod yX5_bound, .selects yX5_bound.cls yX5_bound yX5_bound, .initialized yX5_bound.cls, .code yX5_bound cX5_bound 2 (some .boolean)] : List Cond), w ∈ wsL_law := List.forall_mem_cons.mpr ⟨List.mem_of_getElem? (i := 296) (by decide +kernel), List.forall_mem_cons.mpr ⟨List.mem_of_getElem? (i := 297) (by decide +kernel), List.forall_mem_cons.mpr ⟨List.mem_of_getElem? (i := 298) (by decide +kernel), List.forall_mem_cons.mpr ⟨List.mem_of_getElem? (i := 2) (by decide +kernel), List.forall_mem_cons.mpr ⟨List.mem_of_getElem? (i := 299) (by decide +kernel), fun _ h => absurd h List.not_mem_nil⟩⟩⟩⟩⟩
theorem zeX6_bound : yX6_bound.cls ≠ "java/lang/invoke/MethodHandle" ∧ yX6_bound.cls ≠ "java/lang/invoke/VarHandle" ∧ (parseMethodDescriptor yX6_bound.desc).map (fun d => d.parameters.length) = some 1 := by decide +kernel
theorem zwL_36 : ∀ w ∈ ([.methodLink RL 36 yX6_bound, .instanceMethod yX6_bound, .selects yX6_bound.cls yX6_bound yX6_bound, .initialized yX6_bound.cls, .code yX6_bound cX6_bound 2 (some .boolean)] : List Cond), w ∈ wsL_law := List.forall_mem_cons.mpr ⟨List.mem_of_getElem? (i := 300) (by decide +kernel), List.forall_mem_cons.mpr ⟨List.mem_of_getElem? (i := 301) (by decide +kernel), List.forall_mem_cons.mpr ⟨List.mem_of_getElem? (i := 302) (by decide +kernel), List.forall_mem_cons.mpr ⟨List.mem_of_getElem? (i := 5) (by decide +kernel), List.forall_mem_cons.mpr ⟨List.mem_of_getElem? (i := 303) (by decide +kernel), fun _ h => absurd h List.not_mem_nil⟩⟩⟩⟩⟩
theorem zeX5_write : yX5_write.cls ≠ "java/lang/invoke/MethodHandle" ∧ yX5_write.cls ≠ "java/lang/invoke/VarHandle" ∧ (parseMethodDescriptor yX5_write.desc).map (fun d => d.parameters.length) = some 1 := by decide +kernel
theorem zwL_37 : ∀ w ∈ ([.methodLink RL 37 yX5_write, .instanceMethod yX5_write, .selects yX5_write.cls yX5_write yX5_write, .initialized yX5_write.cls, .code yX5_write cX5_write 2 (some .boolean)] : List Cond), w ∈ wsL_law := List.forall_mem_cons.mpr ⟨List.mem_of_getElem? (i := 305) (by decide +kernel), List.forall_mem_cons.mpr ⟨List.mem_of_getElem? (i := 306) (by decide +kernel), List.forall_mem_cons.mpr ⟨List.mem_of_getElem? (i := 307) (by decide +kernel), List.forall_mem_cons.mpr ⟨List.mem_of_getElem? (i := 2) (by decide +kernel), List.forall_mem_cons.mpr ⟨List.mem_of_getElem? (i := 308) (by decide +kernel), fun _ h => absurd h List.not_mem_nil⟩⟩⟩⟩⟩
theorem zeX6_write : yX6_write.cls ≠ "java/lang/invoke/MethodHandle" ∧ yX6_write.cls ≠ "java/lang/invoke/VarHandle" ∧ (parseMethodDescriptor yX6_write.desc).map (fun d => d.parameters.length) = some 1 := by decide +kernel
theorem zwL_40 : ∀ w ∈ ([.methodLink RL 40 yX6_write, .instanceMethod yX6_write, .selects yX6_write.cls yX6_write yX6_write, .initialized yX6_write.cls, .code yX6_write cX6_write 2 (some .boolean)] : List Cond), w ∈ wsL_law := List.forall_mem_cons.mpr ⟨List.mem_of_getElem? (i := 313) (by decide +kernel), List.forall_mem_cons.mpr ⟨List.mem_of_getElem? (i := 314) (by decide +kernel), List.forall_mem_cons.mpr ⟨List.mem_of_getElem? (i := 315) (by decide +kernel), List.forall_mem_cons.mpr ⟨List.mem_of_getElem? (i := 5) (by decide +kernel), List.forall_mem_cons.mpr ⟨List.mem_of_getElem? (i := 316) (by decide +kernel), fun _ h => absurd h List.not_mem_nil⟩⟩⟩⟩⟩
theorem zeX5_erase : yX5_erase.cls ≠ "java/lang/invoke/MethodHandle" ∧ yX5_erase.cls ≠ "java/lang/invoke/VarHandle" ∧ (parseMethodDescriptor yX5_erase.desc).map (fun d => d.parameters.length) = some 0 := by decide +kernel
theorem zwL_41 : ∀ w ∈ ([.methodLink RL 41 yX5_erase, .instanceMethod yX5_erase, .selects yX5_erase.cls yX5_erase yX5_erase, .initialized yX5_erase.cls, .code yX5_erase cX5_erase 1 none] : List Cond), w ∈ wsL_law := List.forall_mem_cons.mpr ⟨List.mem_of_getElem? (i := 318) (by decide +kernel), List.forall_mem_cons.mpr ⟨List.mem_of_getElem? (i := 319) (by decide +kernel), List.forall_mem_cons.mpr ⟨List.mem_of_getElem? (i := 320) (by decide +kernel), List.forall_mem_cons.mpr ⟨List.mem_of_getElem? (i := 2) (by decide +kernel), List.forall_mem_cons.mpr ⟨List.mem_of_getElem? (i := 321) (by decide +kernel), fun _ h => absurd h List.not_mem_nil⟩⟩⟩⟩⟩
theorem zeX6_erase : yX6_erase.cls ≠ "java/lang/invoke/MethodHandle" ∧ yX6_erase.cls ≠ "java/lang/invoke/VarHandle" ∧ (parseMethodDescriptor yX6_erase.desc).map (fun d => d.parameters.length) = some 0 := by decide +kernel
theorem zwL_44 : ∀ w ∈ ([.methodLink RL 44 yX6_erase, .instanceMethod yX6_erase, .selects yX6_erase.cls yX6_erase yX6_erase, .initialized yX6_erase.cls, .code yX6_erase cX6_erase 1 none] : List Cond), w ∈ wsL_law := List.forall_mem_cons.mpr ⟨List.mem_of_getElem? (i := 325) (by decide +kernel), List.forall_mem_cons.mpr ⟨List.mem_of_getElem? (i := 326) (by decide +kernel), List.forall_mem_cons.mpr ⟨List.mem_of_getElem? (i := 327) (by decide +kernel), List.forall_mem_cons.mpr ⟨List.mem_of_getElem? (i := 5) (by decide +kernel), List.forall_mem_cons.mpr ⟨List.mem_of_getElem? (i := 328) (by decide +kernel), fun _ h => absurd h List.not_mem_nil⟩⟩⟩⟩⟩
theorem zeX5_cost : yX5_cost.cls ≠ "java/lang/invoke/MethodHandle" ∧ yX5_cost.cls ≠ "java/lang/invoke/VarHandle" ∧ (parseMethodDescriptor yX5_cost.desc).map (fun d => d.parameters.length) = some 2 := by decide +kernel
theorem zwL_45 : ∀ w ∈ ([.methodLink RL 45 yX5_cost, .instanceMethod yX5_cost, .selects yX5_cost.cls yX5_cost yX5_cost, .initialized yX5_cost.cls, .code yX5_cost cX5_cost 4 (some .int)] : List Cond), w ∈ wsL_law := List.forall_mem_cons.mpr ⟨List.mem_of_getElem? (i := 329) (by decide +kernel), List.forall_mem_cons.mpr ⟨List.mem_of_getElem? (i := 330) (by decide +kernel), List.forall_mem_cons.mpr ⟨List.mem_of_getElem? (i := 331) (by decide +kernel), List.forall_mem_cons.mpr ⟨List.mem_of_getElem? (i := 2) (by decide +kernel), List.forall_mem_cons.mpr ⟨List.mem_of_getElem? (i := 332) (by decide +kernel), fun _ h => absurd h List.not_mem_nil⟩⟩⟩⟩⟩
theorem zeX6_cost : yX6_cost.cls ≠ "java/lang/invoke/MethodHandle" ∧ yX6_cost.cls ≠ "java/lang/invoke/VarHandle" ∧ (parseMethodDescriptor yX6_cost.desc).map (fun d => d.parameters.length) = some 2 := by decide +kernel
theorem zwL_49 : ∀ w ∈ ([.methodLink RL 49 yX6_cost, .instanceMethod yX6_cost, .selects yX6_cost.cls yX6_cost yX6_cost, .initialized yX6_cost.cls, .code yX6_cost cX6_cost 4 (some .int)] : List Cond), w ∈ wsL_law := List.forall_mem_cons.mpr ⟨List.mem_of_getElem? (i := 383) (by decide +kernel), List.forall_mem_cons.mpr ⟨List.mem_of_getElem? (i := 384) (by decide +kernel), List.forall_mem_cons.mpr ⟨List.mem_of_getElem? (i := 385) (by decide +kernel), List.forall_mem_cons.mpr ⟨List.mem_of_getElem? (i := 5) (by decide +kernel), List.forall_mem_cons.mpr ⟨List.mem_of_getElem? (i := 386) (by decide +kernel), fun _ h => absurd h List.not_mem_nil⟩⟩⟩⟩⟩
theorem zeX5_find : yX5_find.cls ≠ "java/lang/invoke/MethodHandle" ∧ yX5_find.cls ≠ "java/lang/invoke/VarHandle" ∧ (parseMethodDescriptor yX5_find.desc).map (fun d => d.parameters.length) = some 1 := by decide +kernel
theorem zwL_50 : ∀ w ∈ ([.methodLink RL 50 yX5_find, .instanceMethod yX5_find, .selects yX5_find.cls yX5_find yX5_find, .initialized yX5_find.cls, .code yX5_find cX5_find 6 (some .int)] : List Cond), w ∈ wsL_law := List.forall_mem_cons.mpr ⟨List.mem_of_getElem? (i := 415) (by decide +kernel), List.forall_mem_cons.mpr ⟨List.mem_of_getElem? (i := 416) (by decide +kernel), List.forall_mem_cons.mpr ⟨List.mem_of_getElem? (i := 417) (by decide +kernel), List.forall_mem_cons.mpr ⟨List.mem_of_getElem? (i := 2) (by decide +kernel), List.forall_mem_cons.mpr ⟨List.mem_of_getElem? (i := 418) (by decide +kernel), fun _ h => absurd h List.not_mem_nil⟩⟩⟩⟩⟩
theorem zeX6_find : yX6_find.cls ≠ "java/lang/invoke/MethodHandle" ∧ yX6_find.cls ≠ "java/lang/invoke/VarHandle" ∧ (parseMethodDescriptor yX6_find.desc).map (fun d => d.parameters.length) = some 1 := by decide +kernel
theorem zwL_54 : ∀ w ∈ ([.methodLink RL 54 yX6_find, .instanceMethod yX6_find, .selects yX6_find.cls yX6_find yX6_find, .initialized yX6_find.cls, .code yX6_find cX6_find 4 (some .int)] : List Cond), w ∈ wsL_law := List.forall_mem_cons.mpr ⟨List.mem_of_getElem? (i := 419) (by decide +kernel), List.forall_mem_cons.mpr ⟨List.mem_of_getElem? (i := 420) (by decide +kernel), List.forall_mem_cons.mpr ⟨List.mem_of_getElem? (i := 421) (by decide +kernel), List.forall_mem_cons.mpr ⟨List.mem_of_getElem? (i := 5) (by decide +kernel), List.forall_mem_cons.mpr ⟨List.mem_of_getElem? (i := 422) (by decide +kernel), fun _ h => absurd h List.not_mem_nil⟩⟩⟩⟩⟩
theorem zeX5_from : yX5_from.cls ≠ "java/lang/invoke/MethodHandle" ∧ yX5_from.cls ≠ "java/lang/invoke/VarHandle" ∧ (parseMethodDescriptor yX5_from.desc).map (fun d => d.parameters.length) = some 0 := by decide +kernel
theorem zwL_55 : ∀ w ∈ ([.methodLink RL 55 yX5_from, .instanceMethod yX5_from, .selects yX5_from.cls yX5_from yX5_from, .initialized yX5_from.cls, .code yX5_from cX5_from 1 (some .int)] : List Cond), w ∈ wsL_law := List.forall_mem_cons.mpr ⟨List.mem_of_getElem? (i := 432) (by decide +kernel), List.forall_mem_cons.mpr ⟨List.mem_of_getElem? (i := 433) (by decide +kernel), List.forall_mem_cons.mpr ⟨List.mem_of_getElem? (i := 434) (by decide +kernel), List.forall_mem_cons.mpr ⟨List.mem_of_getElem? (i := 2) (by decide +kernel), List.forall_mem_cons.mpr ⟨List.mem_of_getElem? (i := 435) (by decide +kernel), fun _ h => absurd h List.not_mem_nil⟩⟩⟩⟩⟩
theorem zeX6_from : yX6_from.cls ≠ "java/lang/invoke/MethodHandle" ∧ yX6_from.cls ≠ "java/lang/invoke/VarHandle" ∧ (parseMethodDescriptor yX6_from.desc).map (fun d => d.parameters.length) = some 0 := by decide +kernel
theorem zwL_58 : ∀ w ∈ ([.methodLink RL 58 yX6_from, .instanceMethod yX6_from, .selects yX6_from.cls yX6_from yX6_from, .initialized yX6_from.cls, .code yX6_from cX6_from 1 (some .int)] : List Cond), w ∈ wsL_law := List.forall_mem_cons.mpr ⟨List.mem_of_getElem? (i := 436) (by decide +kernel), List.forall_mem_cons.mpr ⟨List.mem_of_getElem? (i := 437) (by decide +kernel), List.forall_mem_cons.mpr ⟨List.mem_of_getElem? (i := 438) (by decide +kernel), List.forall_mem_cons.mpr ⟨List.mem_of_getElem? (i := 5) (by decide +kernel), List.forall_mem_cons.mpr ⟨List.mem_of_getElem? (i := 439) (by decide +kernel), fun _ h => absurd h List.not_mem_nil⟩⟩⟩⟩⟩
theorem zeX5_to : yX5_to.cls ≠ "java/lang/invoke/MethodHandle" ∧ yX5_to.cls ≠ "java/lang/invoke/VarHandle" ∧ (parseMethodDescriptor yX5_to.desc).map (fun d => d.parameters.length) = some 0 := by decide +kernel
theorem zwL_59 : ∀ w ∈ ([.methodLink RL 59 yX5_to, .instanceMethod yX5_to, .selects yX5_to.cls yX5_to yX5_to, .initialized yX5_to.cls, .code yX5_to cX5_to 1 (some .int)] : List Cond), w ∈ wsL_law := List.forall_mem_cons.mpr ⟨List.mem_of_getElem? (i := 440) (by decide +kernel), List.forall_mem_cons.mpr ⟨List.mem_of_getElem? (i := 441) (by decide +kernel), List.forall_mem_cons.mpr ⟨List.mem_of_getElem? (i := 442) (by decide +kernel), List.forall_mem_cons.mpr ⟨List.mem_of_getElem? (i := 2) (by decide +kernel), List.forall_mem_cons.mpr ⟨List.mem_of_getElem? (i := 443) (by decide +kernel), fun _ h => absurd h List.not_mem_nil⟩⟩⟩⟩⟩
theorem zeX6_to : yX6_to.cls ≠ "java/lang/invoke/MethodHandle" ∧ yX6_to.cls ≠ "java/lang/invoke/VarHandle" ∧ (parseMethodDescriptor yX6_to.desc).map (fun d => d.parameters.length) = some 0 := by decide +kernel
theorem zwL_62 : ∀ w ∈ ([.methodLink RL 62 yX6_to, .instanceMethod yX6_to, .selects yX6_to.cls yX6_to yX6_to, .initialized yX6_to.cls, .code yX6_to cX6_to 1 (some .int)] : List Cond), w ∈ wsL_law := List.forall_mem_cons.mpr ⟨List.mem_of_getElem? (i := 444) (by decide +kernel), List.forall_mem_cons.mpr ⟨List.mem_of_getElem? (i := 445) (by decide +kernel), List.forall_mem_cons.mpr ⟨List.mem_of_getElem? (i := 446) (by decide +kernel), List.forall_mem_cons.mpr ⟨List.mem_of_getElem? (i := 5) (by decide +kernel), List.forall_mem_cons.mpr ⟨List.mem_of_getElem? (i := 447) (by decide +kernel), fun _ h => absurd h List.not_mem_nil⟩⟩⟩⟩⟩
theorem zeX5_ends : yX5_ends.cls ≠ "java/lang/invoke/MethodHandle" ∧ yX5_ends.cls ≠ "java/lang/invoke/VarHandle" ∧ (parseMethodDescriptor yX5_ends.desc).map (fun d => d.parameters.length) = some 0 := by decide +kernel
theorem zwL_63 : ∀ w ∈ ([.methodLink RL 63 yX5_ends, .instanceMethod yX5_ends, .selects yX5_ends.cls yX5_ends yX5_ends, .initialized yX5_ends.cls, .code yX5_ends cX5_ends 4 (some .int)] : List Cond), w ∈ wsL_law := List.forall_mem_cons.mpr ⟨List.mem_of_getElem? (i := 448) (by decide +kernel), List.forall_mem_cons.mpr ⟨List.mem_of_getElem? (i := 449) (by decide +kernel), List.forall_mem_cons.mpr ⟨List.mem_of_getElem? (i := 450) (by decide +kernel), List.forall_mem_cons.mpr ⟨List.mem_of_getElem? (i := 2) (by decide +kernel), List.forall_mem_cons.mpr ⟨List.mem_of_getElem? (i := 451) (by decide +kernel), fun _ h => absurd h List.not_mem_nil⟩⟩⟩⟩⟩
theorem zeX6_ends : yX6_ends.cls ≠ "java/lang/invoke/MethodHandle" ∧ yX6_ends.cls ≠ "java/lang/invoke/VarHandle" ∧ (parseMethodDescriptor yX6_ends.desc).map (fun d => d.parameters.length) = some 0 := by decide +kernel
theorem zwL_66 : ∀ w ∈ ([.methodLink RL 66 yX6_ends, .instanceMethod yX6_ends, .selects yX6_ends.cls yX6_ends yX6_ends, .initialized yX6_ends.cls, .code yX6_ends cX6_ends 4 (some .int)] : List Cond), w ∈ wsL_law := List.forall_mem_cons.mpr ⟨List.mem_of_getElem? (i := 452) (by decide +kernel), List.forall_mem_cons.mpr ⟨List.mem_of_getElem? (i := 453) (by decide +kernel), List.forall_mem_cons.mpr ⟨List.mem_of_getElem? (i := 454) (by decide +kernel), List.forall_mem_cons.mpr ⟨List.mem_of_getElem? (i := 5) (by decide +kernel), List.forall_mem_cons.mpr ⟨List.mem_of_getElem? (i := 455) (by decide +kernel), fun _ h => absurd h List.not_mem_nil⟩⟩⟩⟩⟩
theorem zeX5_add : yX5_add.cls ≠ "java/lang/invoke/MethodHandle" ∧ yX5_add.cls ≠ "java/lang/invoke/VarHandle" ∧ (parseMethodDescriptor yX5_add.desc).map (fun d => d.parameters.length) = some 0 := by decide +kernel
theorem zwL_67 : ∀ w ∈ ([.methodLink RL 67 yX5_add, .instanceMethod yX5_add, .selects yX5_add.cls yX5_add yX5_add, .initialized yX5_add.cls, .code yX5_add cX5_add 1 (some .int)] : List Cond), w ∈ wsL_law := List.forall_mem_cons.mpr ⟨List.mem_of_getElem? (i := 456) (by decide +kernel), List.forall_mem_cons.mpr ⟨List.mem_of_getElem? (i := 457) (by decide +kernel), List.forall_mem_cons.mpr ⟨List.mem_of_getElem? (i := 458) (by decide +kernel), List.forall_mem_cons.mpr ⟨List.mem_of_getElem? (i := 2) (by decide +kernel), List.forall_mem_cons.mpr ⟨List.mem_of_getElem? (i := 459) (by decide +kernel), fun _ h => absurd h List.not_mem_nil⟩⟩⟩⟩⟩
theorem zeX6_add : yX6_add.cls ≠ "java/lang/invoke/MethodHandle" ∧ yX6_add.cls ≠ "java/lang/invoke/VarHandle" ∧ (parseMethodDescriptor yX6_add.desc).map (fun d => d.parameters.length) = some 0 := by decide +kernel
theorem zwL_70 : ∀ w ∈ ([.methodLink RL 70 yX6_add, .instanceMethod yX6_add, .selects yX6_add.cls yX6_add yX6_add, .initialized yX6_add.cls, .code yX6_add cX6_add 2 (some .int)] : List Cond), w ∈ wsL_law := List.forall_mem_cons.mpr ⟨List.mem_of_getElem? (i := 477) (by decide +kernel), List.forall_mem_cons.mpr ⟨List.mem_of_getElem? (i := 478) (by decide +kernel), List.forall_mem_cons.mpr ⟨List.mem_of_getElem? (i := 479) (by decide +kernel), List.forall_mem_cons.mpr ⟨List.mem_of_getElem? (i := 5) (by decide +kernel), List.forall_mem_cons.mpr ⟨List.mem_of_getElem? (i := 480) (by decide +kernel), fun _ h => absurd h List.not_mem_nil⟩⟩⟩⟩⟩
theorem zeX5_words : yX5_words.cls ≠ "java/lang/invoke/MethodHandle" ∧ yX5_words.cls ≠ "java/lang/invoke/VarHandle" ∧ (parseMethodDescriptor yX5_words.desc).map (fun d => d.parameters.length) = some 0 := by decide +kernel
theorem zwL_71 : ∀ w ∈ ([.methodLink RL 71 yX5_words, .instanceMethod yX5_words, .selects yX5_words.cls yX5_words yX5_words, .initialized yX5_words.cls, .code yX5_words cX5_words 1 (some .int)] : List Cond), w ∈ wsL_law := List.forall_mem_cons.mpr ⟨List.mem_of_getElem? (i := 490) (by decide +kernel), List.forall_mem_cons.mpr ⟨List.mem_of_getElem? (i := 491) (by decide +kernel), List.forall_mem_cons.mpr ⟨List.mem_of_getElem? (i := 492) (by decide +kernel), List.forall_mem_cons.mpr ⟨List.mem_of_getElem? (i := 2) (by decide +kernel), List.forall_mem_cons.mpr ⟨List.mem_of_getElem? (i := 493) (by decide +kernel), fun _ h => absurd h List.not_mem_nil⟩⟩⟩⟩⟩
theorem zeX6_words : yX6_words.cls ≠ "java/lang/invoke/MethodHandle" ∧ yX6_words.cls ≠ "java/lang/invoke/VarHandle" ∧ (parseMethodDescriptor yX6_words.desc).map (fun d => d.parameters.length) = some 0 := by decide +kernel
theorem zwL_74 : ∀ w ∈ ([.methodLink RL 74 yX6_words, .instanceMethod yX6_words, .selects yX6_words.cls yX6_words yX6_words, .initialized yX6_words.cls, .code yX6_words cX6_words 1 (some .int)] : List Cond), w ∈ wsL_law := List.forall_mem_cons.mpr ⟨List.mem_of_getElem? (i := 494) (by decide +kernel), List.forall_mem_cons.mpr ⟨List.mem_of_getElem? (i := 495) (by decide +kernel), List.forall_mem_cons.mpr ⟨List.mem_of_getElem? (i := 496) (by decide +kernel), List.forall_mem_cons.mpr ⟨List.mem_of_getElem? (i := 5) (by decide +kernel), List.forall_mem_cons.mpr ⟨List.mem_of_getElem? (i := 497) (by decide +kernel), fun _ h => absurd h List.not_mem_nil⟩⟩⟩⟩⟩
theorem zeX5_distance : yX5_distance.cls ≠ "java/lang/invoke/MethodHandle" ∧ yX5_distance.cls ≠ "java/lang/invoke/VarHandle" ∧ (parseMethodDescriptor yX5_distance.desc).map (fun d => d.parameters.length) = some 2 := by decide +kernel
theorem zwL_75 : ∀ w ∈ ([.methodLink RL 75 yX5_distance, .instanceMethod yX5_distance, .selects yX5_distance.cls yX5_distance yX5_distance, .initialized yX5_distance.cls, .code yX5_distance cX5_distance 3 (some .int)] : List Cond), w ∈ wsL_law := List.forall_mem_cons.mpr ⟨List.mem_of_getElem? (i := 498) (by decide +kernel), List.forall_mem_cons.mpr ⟨List.mem_of_getElem? (i := 499) (by decide +kernel), List.forall_mem_cons.mpr ⟨List.mem_of_getElem? (i := 500) (by decide +kernel), List.forall_mem_cons.mpr ⟨List.mem_of_getElem? (i := 2) (by decide +kernel), List.forall_mem_cons.mpr ⟨List.mem_of_getElem? (i := 501) (by decide +kernel), fun _ h => absurd h List.not_mem_nil⟩⟩⟩⟩⟩
theorem zeX6_distance : yX6_distance.cls ≠ "java/lang/invoke/MethodHandle" ∧ yX6_distance.cls ≠ "java/lang/invoke/VarHandle" ∧ (parseMethodDescriptor yX6_distance.desc).map (fun d => d.parameters.length) = some 2 := by decide +kernel
theorem zwL_79 : ∀ w ∈ ([.methodLink RL 79 yX6_distance, .instanceMethod yX6_distance, .selects yX6_distance.cls yX6_distance yX6_distance, .initialized yX6_distance.cls, .code yX6_distance cX6_distance 5 (some .int)] : List Cond), w ∈ wsL_law := List.forall_mem_cons.mpr ⟨List.mem_of_getElem? (i := 516) (by decide +kernel), List.forall_mem_cons.mpr ⟨List.mem_of_getElem? (i := 483) (by decide +kernel), List.forall_mem_cons.mpr ⟨List.mem_of_getElem? (i := 484) (by decide +kernel), List.forall_mem_cons.mpr ⟨List.mem_of_getElem? (i := 5) (by decide +kernel), List.forall_mem_cons.mpr ⟨List.mem_of_getElem? (i := 485) (by decide +kernel), fun _ h => absurd h List.not_mem_nil⟩⟩⟩⟩⟩
theorem zeX5_near : yX5_near.cls ≠ "java/lang/invoke/MethodHandle" ∧ yX5_near.cls ≠ "java/lang/invoke/VarHandle" ∧ (parseMethodDescriptor yX5_near.desc).map (fun d => d.parameters.length) = some 2 := by decide +kernel
theorem zwL_80 : ∀ w ∈ ([.methodLink RL 80 yX5_near, .instanceMethod yX5_near, .selects yX5_near.cls yX5_near yX5_near, .initialized yX5_near.cls, .code yX5_near cX5_near 3 (some .int)] : List Cond), w ∈ wsL_law := List.forall_mem_cons.mpr ⟨List.mem_of_getElem? (i := 517) (by decide +kernel), List.forall_mem_cons.mpr ⟨List.mem_of_getElem? (i := 518) (by decide +kernel), List.forall_mem_cons.mpr ⟨List.mem_of_getElem? (i := 519) (by decide +kernel), List.forall_mem_cons.mpr ⟨List.mem_of_getElem? (i := 2) (by decide +kernel), List.forall_mem_cons.mpr ⟨List.mem_of_getElem? (i := 520) (by decide +kernel), fun _ h => absurd h List.not_mem_nil⟩⟩⟩⟩⟩
theorem zeX6_near : yX6_near.cls ≠ "java/lang/invoke/MethodHandle" ∧ yX6_near.cls ≠ "java/lang/invoke/VarHandle" ∧ (parseMethodDescriptor yX6_near.desc).map (fun d => d.parameters.length) = some 2 := by decide +kernel
theorem zwL_83 : ∀ w ∈ ([.methodLink RL 83 yX6_near, .instanceMethod yX6_near, .selects yX6_near.cls yX6_near yX6_near, .initialized yX6_near.cls, .code yX6_near cX6_near 5 (some .int)] : List Cond), w ∈ wsL_law := List.forall_mem_cons.mpr ⟨List.mem_of_getElem? (i := 525) (by decide +kernel), List.forall_mem_cons.mpr ⟨List.mem_of_getElem? (i := 526) (by decide +kernel), List.forall_mem_cons.mpr ⟨List.mem_of_getElem? (i := 527) (by decide +kernel), List.forall_mem_cons.mpr ⟨List.mem_of_getElem? (i := 5) (by decide +kernel), List.forall_mem_cons.mpr ⟨List.mem_of_getElem? (i := 528) (by decide +kernel), fun _ h => absurd h List.not_mem_nil⟩⟩⟩⟩⟩
theorem zeX5_rank : yX5_rank.cls ≠ "java/lang/invoke/MethodHandle" ∧ yX5_rank.cls ≠ "java/lang/invoke/VarHandle" ∧ (parseMethodDescriptor yX5_rank.desc).map (fun d => d.parameters.length) = some 2 := by decide +kernel
theorem zwL_84 : ∀ w ∈ ([.methodLink RL 84 yX5_rank, .instanceMethod yX5_rank, .selects yX5_rank.cls yX5_rank yX5_rank, .initialized yX5_rank.cls, .code yX5_rank cX5_rank 3 (some .int)] : List Cond), w ∈ wsL_law := List.forall_mem_cons.mpr ⟨List.mem_of_getElem? (i := 529) (by decide +kernel), List.forall_mem_cons.mpr ⟨List.mem_of_getElem? (i := 530) (by decide +kernel), List.forall_mem_cons.mpr ⟨List.mem_of_getElem? (i := 531) (by decide +kernel), List.forall_mem_cons.mpr ⟨List.mem_of_getElem? (i := 2) (by decide +kernel), List.forall_mem_cons.mpr ⟨List.mem_of_getElem? (i := 532) (by decide +kernel), fun _ h => absurd h List.not_mem_nil⟩⟩⟩⟩⟩
theorem zeX6_rank : yX6_rank.cls ≠ "java/lang/invoke/MethodHandle" ∧ yX6_rank.cls ≠ "java/lang/invoke/VarHandle" ∧ (parseMethodDescriptor yX6_rank.desc).map (fun d => d.parameters.length) = some 2 := by decide +kernel
theorem zwL_87 : ∀ w ∈ ([.methodLink RL 87 yX6_rank, .instanceMethod yX6_rank, .selects yX6_rank.cls yX6_rank yX6_rank, .initialized yX6_rank.cls, .code yX6_rank cX6_rank 8 (some .int)] : List Cond), w ∈ wsL_law := List.forall_mem_cons.mpr ⟨List.mem_of_getElem? (i := 544) (by decide +kernel), List.forall_mem_cons.mpr ⟨List.mem_of_getElem? (i := 545) (by decide +kernel), List.forall_mem_cons.mpr ⟨List.mem_of_getElem? (i := 546) (by decide +kernel), List.forall_mem_cons.mpr ⟨List.mem_of_getElem? (i := 5) (by decide +kernel), List.forall_mem_cons.mpr ⟨List.mem_of_getElem? (i := 547) (by decide +kernel), fun _ h => absurd h List.not_mem_nil⟩⟩⟩⟩⟩
set_option maxHeartbeats 4000000 in
set_option maxRecDepth 100000 in
theorem lc_type {p : Program} {l : Launch} {e : Env} {s : State} {m : MethodId} {below : List Frame} {meth : Method} {c : Code} {Q : State → Prop} {b L : Nat} {xs : Nat → Int32} {G : zG} {A : Nat → Nat} {i : Nat} {Y : zY} {H : Heap} {locs : List Loc} {ls : Array Slot} (S : CallFix p m c cL_law 4 s #[Value.ref b] wsL_law RL) (hX0 : va_X b L xs s s.heap) (hbl : b < s.heap.size) (hK : zK G A s) (hB : ∀ q, zAd A q → (fun q : Nat => s.heap.size ≤ q) q) (hL : L ≤ 2048) (hi : i + 4 ≤ L) (hP : va_P G.1 vwCl (zW G A Y) H) (hS : va_S (fun q : Nat => s.heap.size ≤ q) s.heap H locs) (hl : lv_has ls 4 [(0, .ref b), (1, .ref (A 0)), (2, .ref (A 102)), (3, .int (nI i))]) (hLV : LV Y) (kk : ∀ (Y2 : zY) (H2 : Heap) (locs2 : List Loc), LV Y2 → va_P G.1 vwCl (zW G A Y2) H2 → va_S (fun q : Nat => s.heap.size ≤ q) s.heap H2 locs2 → W p l e room_1 s m #[Value.ref b] below meth c H2 locs2 600000 7302250 Q (F0 m 553 ls [])) : W p l e room_1 s m #[Value.ref b] below meth c H locs 600000 7302250 Q (F0 m 116 ls []) := by
  obtain ⟨n, ch, nn, kd, lf, rt, tx, len, ad, mi, wr, bd, nw, wz, wl, f, t, hX, hM⟩ := hLV
  refine lv_aload_n S.1 S.2.1 dL_law_116 rfl (lv_at hl 1 rfl) ?_
  refine lv_aload_n S.1 S.2.1 dL_law_117 rfl (lv_at hl 0 rfl) ?_
  refine lv_iload_n S.1 S.2.1 dL_law_118 rfl (lv_at hl 3 rfl) ?_
  refine lv_iconst (v := nI 1) S.1 S.2.1 dL_law_119 (by decide) ?_
  refine zaddN S dL_law_120 ?_
  refine zsl S hX0 hbl hS (by omega) hL dL_law_121 ?_
  refine zi2c S dL_law_122 ?_
  refine ZI.callV S hK hP hS hB (kX5_type l G A Y n (zch (xs (i + 1))) hX.1.1 (zch_lt _) hX.1.2.1) zwL_13 zeX5_type rfl ⟨Nat.le_of_ble_eq_true rfl, Nat.le_of_ble_eq_true rfl⟩ (by decide) (zcK0 zk_0) rfl rfl (Nat.le_of_ble_eq_true rfl) hl.1 dL_law_123 ⟨Nat.le_of_ble_eq_true rfl, Nat.le_of_ble_eq_true rfl⟩ (fun r1 Y1 H locs hq1 hP hS => ?_)
  obtain ⟨hM1, hgo⟩ := go_type (zch_lt _) hX hM hq1
  refine lv_aload_n S.1 S.2.1 dL_law_126 rfl (lv_at hl 2 rfl) ?_
  refine lv_aload_n S.1 S.2.1 dL_law_127 rfl (lv_at hl 0 rfl) ?_
  refine lv_iload_n S.1 S.2.1 dL_law_128 rfl (lv_at hl 3 rfl) ?_
  refine lv_iconst (v := nI 1) S.1 S.2.1 dL_law_129 (by decide) ?_
  refine zaddN S dL_law_130 ?_
  refine zsl S hX0 hbl hS (by omega) hL dL_law_131 ?_
  refine zi2c S dL_law_132 ?_
  refine ZI.callV S hK hP hS hB (kX6_type l G A Y1 n (zch (xs (i + 1))) hM1.1.1 (zch_lt _) hM1.1.2.1) zwL_17 zeX6_type rfl ⟨Nat.le_of_ble_eq_true rfl, Nat.le_of_ble_eq_true rfl⟩ (by decide) (zcK6 zk_102) rfl rfl (Nat.le_of_ble_eq_true rfl) hl.1 dL_law_133 ⟨Nat.le_of_ble_eq_true rfl, Nat.le_of_ble_eq_true rfl⟩ (fun r2 Y2 H locs hq2 hP hS => ?_)
  obtain ⟨he, hLV2⟩ := hgo _ _ hq2
  exact lv_icmp_eq (tgt := 553) S.1 S.2.1 dL_law_136 (by decide) (fun _ => kk _ _ _ hLV2 hP hS) (fun h9 => absurd he h9)
set_option maxHeartbeats 4000000 in
set_option maxRecDepth 100000 in
theorem lc_compile {p : Program} {l : Launch} {e : Env} {s : State} {m : MethodId} {below : List Frame} {meth : Method} {c : Code} {Q : State → Prop} {b L : Nat} {xs : Nat → Int32} {G : zG} {A : Nat → Nat} {i : Nat} {Y : zY} {H : Heap} {locs : List Loc} {ls : Array Slot} (S : CallFix p m c cL_law 4 s #[Value.ref b] wsL_law RL) (hX0 : va_X b L xs s s.heap) (hbl : b < s.heap.size) (hK : zK G A s) (hB : ∀ q, zAd A q → (fun q : Nat => s.heap.size ≤ q) q) (hL : L ≤ 2048) (hi : i + 4 ≤ L) (hP : va_P G.1 vwCl (zW G A Y) H) (hS : va_S (fun q : Nat => s.heap.size ≤ q) s.heap H locs) (hl : lv_has ls 4 [(0, .ref b), (1, .ref (A 0)), (2, .ref (A 102)), (3, .int (nI i))]) (hLV : LV Y) (kk : ∀ (Y2 : zY) (H2 : Heap) (locs2 : List Loc), LV Y2 → va_P G.1 vwCl (zW G A Y2) H2 → va_S (fun q : Nat => s.heap.size ≤ q) s.heap H2 locs2 → W p l e room_1 s m #[Value.ref b] below meth c H2 locs2 600000 7302250 Q (F0 m 553 ls [])) : W p l e room_1 s m #[Value.ref b] below meth c H locs 600000 7302250 Q (F0 m 141 ls []) := by
  obtain ⟨n, ch, nn, kd, lf, rt, tx, len, ad, mi, wr, bd, nw, wz, wl, f, t, hX, hM⟩ := hLV
  refine lv_aload_n S.1 S.2.1 dL_law_141 rfl (lv_at hl 1 rfl) ?_
  obtain ⟨T9, hR9, hB9⟩ := hX.2.1
  refine ZI.callV S hK hP hS hB (kX5_compile l G A Y n ch T9 hR9 hB9 hX.1.1 hX.1.2.2 hX.1.2.1) zwL_18 zeX5_compile rfl ⟨Nat.le_of_ble_eq_true rfl, Nat.le_of_ble_eq_true rfl⟩ (by decide) (zcK0 zk_0) rfl rfl (Nat.le_of_ble_eq_true rfl) hl.1 dL_law_142 ⟨Nat.le_of_ble_eq_true rfl, Nat.le_of_ble_eq_true rfl⟩ (fun r1 Y1 H locs hq1 hP hS => ?_)
  obtain ⟨hM1, hgo⟩ := go_compile hB9 hX hM hq1
  refine lv_aload_n S.1 S.2.1 dL_law_145 rfl (lv_at hl 2 rfl) ?_
  refine ZI.callV S hK hP hS hB (kX6_compile l G A Y1 n ch (sNew T9) (sNew_G0 hB9) hM1.1.1 hM1.1.2.2 hM1.1.2.1) zwL_22 zeX6_compile rfl ⟨Nat.le_of_ble_eq_true rfl, Nat.le_of_ble_eq_true rfl⟩ (by decide) (zcK6 zk_102) rfl rfl (Nat.le_of_ble_eq_true rfl) hl.1 dL_law_146 ⟨Nat.le_of_ble_eq_true rfl, Nat.le_of_ble_eq_true rfl⟩ (fun r2 Y2 H locs hq2 hP hS => ?_)
  obtain ⟨he, hLV2⟩ := hgo _ _ hq2
  exact lv_icmp_eq (tgt := 553) S.1 S.2.1 dL_law_149 (by decide) (fun _ => kk _ _ _ hLV2 hP hS) (fun h9 => absurd he h9)
set_option maxHeartbeats 4000000 in
set_option maxRecDepth 100000 in
theorem lc_nodes {p : Program} {l : Launch} {e : Env} {s : State} {m : MethodId} {below : List Frame} {meth : Method} {c : Code} {Q : State → Prop} {b L : Nat} {xs : Nat → Int32} {G : zG} {A : Nat → Nat} {i : Nat} {Y : zY} {H : Heap} {locs : List Loc} {ls : Array Slot} (S : CallFix p m c cL_law 4 s #[Value.ref b] wsL_law RL) (hX0 : va_X b L xs s s.heap) (hbl : b < s.heap.size) (hK : zK G A s) (hB : ∀ q, zAd A q → (fun q : Nat => s.heap.size ≤ q) q) (hL : L ≤ 2048) (hi : i + 4 ≤ L) (hP : va_P G.1 vwCl (zW G A Y) H) (hS : va_S (fun q : Nat => s.heap.size ≤ q) s.heap H locs) (hl : lv_has ls 4 [(0, .ref b), (1, .ref (A 0)), (2, .ref (A 102)), (3, .int (nI i))]) (hLV : LV Y) (kk : ∀ (Y2 : zY) (H2 : Heap) (locs2 : List Loc), LV Y2 → va_P G.1 vwCl (zW G A Y2) H2 → va_S (fun q : Nat => s.heap.size ≤ q) s.heap H2 locs2 → W p l e room_1 s m #[Value.ref b] below meth c H2 locs2 600000 7302250 Q (F0 m 553 ls [])) : W p l e room_1 s m #[Value.ref b] below meth c H locs 600000 7302250 Q (F0 m 154 ls []) := by
  obtain ⟨n, ch, nn, kd, lf, rt, tx, len, ad, mi, wr, bd, nw, wz, wl, f, t, hX, hM⟩ := hLV
  refine lv_aload_n S.1 S.2.1 dL_law_154 rfl (lv_at hl 1 rfl) ?_
  refine ZI.callV S hK hP hS hB (kX5_nodes l G A Y) zwL_23 zeX5_nodes rfl ⟨Nat.le_of_ble_eq_true rfl, Nat.le_of_ble_eq_true rfl⟩ (by decide) (zcK0 zk_0) rfl rfl (Nat.le_of_ble_eq_true rfl) hl.1 dL_law_155 ⟨Nat.le_of_ble_eq_true rfl, Nat.le_of_ble_eq_true rfl⟩ (fun r1 Y1 H locs hq1 hP hS => ?_)
  obtain ⟨hM1, hgo⟩ := go_nodes hX hM hq1
  refine lv_aload_n S.1 S.2.1 dL_law_158 rfl (lv_at hl 2 rfl) ?_
  refine ZI.callV S hK hP hS hB (kX6_nodes l G A Y1) zwL_26 zeX6_nodes rfl ⟨Nat.le_of_ble_eq_true rfl, Nat.le_of_ble_eq_true rfl⟩ (by decide) (zcK6 zk_102) rfl rfl (Nat.le_of_ble_eq_true rfl) hl.1 dL_law_159 ⟨Nat.le_of_ble_eq_true rfl, Nat.le_of_ble_eq_true rfl⟩ (fun r2 Y2 H locs hq2 hP hS => ?_)
  obtain ⟨he, hLV2⟩ := hgo _ _ hq2
  exact lv_icmp_eq (tgt := 553) S.1 S.2.1 dL_law_162 (by decide) (fun _ => kk _ _ _ hLV2 hP hS) (fun h9 => absurd he h9)
set_option maxHeartbeats 4000000 in
set_option maxRecDepth 100000 in
theorem lc_weights {p : Program} {l : Launch} {e : Env} {s : State} {m : MethodId} {below : List Frame} {meth : Method} {c : Code} {Q : State → Prop} {b L : Nat} {xs : Nat → Int32} {G : zG} {A : Nat → Nat} {i : Nat} {Y : zY} {H : Heap} {locs : List Loc} {ls : Array Slot} (S : CallFix p m c cL_law 4 s #[Value.ref b] wsL_law RL) (hX0 : va_X b L xs s s.heap) (hbl : b < s.heap.size) (hK : zK G A s) (hB : ∀ q, zAd A q → (fun q : Nat => s.heap.size ≤ q) q) (hL : L ≤ 2048) (hi : i + 4 ≤ L) (hP : va_P G.1 vwCl (zW G A Y) H) (hS : va_S (fun q : Nat => s.heap.size ≤ q) s.heap H locs) (hl : lv_has ls 4 [(0, .ref b), (1, .ref (A 0)), (2, .ref (A 102)), (3, .int (nI i))]) (hLV : LV Y) (kk : ∀ (Y2 : zY) (H2 : Heap) (locs2 : List Loc), LV Y2 → va_P G.1 vwCl (zW G A Y2) H2 → va_S (fun q : Nat => s.heap.size ≤ q) s.heap H2 locs2 → W p l e room_1 s m #[Value.ref b] below meth c H2 locs2 600000 7302250 Q (F0 m 553 ls [])) : W p l e room_1 s m #[Value.ref b] below meth c H locs 600000 7302250 Q (F0 m 167 ls []) := by
  obtain ⟨n, ch, nn, kd, lf, rt, tx, len, ad, mi, wr, bd, nw, wz, wl, f, t, hX, hM⟩ := hLV
  refine lv_aload_n S.1 S.2.1 dL_law_167 rfl (lv_at hl 1 rfl) ?_
  refine lv_aload_n S.1 S.2.1 dL_law_168 rfl (lv_at hl 0 rfl) ?_
  refine lv_iload_n S.1 S.2.1 dL_law_169 rfl (lv_at hl 3 rfl) ?_
  refine lv_iconst (v := nI 1) S.1 S.2.1 dL_law_170 (by decide) ?_
  refine zaddN S dL_law_171 ?_
  refine zsl S hX0 hbl hS (by omega) hL dL_law_172 ?_
  refine lv_aload_n S.1 S.2.1 dL_law_173 rfl (lv_at hl 0 rfl) ?_
  refine lv_iload_n S.1 S.2.1 dL_law_174 rfl (lv_at hl 3 rfl) ?_
  refine lv_iconst (v := nI 2) S.1 S.2.1 dL_law_175 (by decide) ?_
  refine zaddN S dL_law_176 ?_
  refine zsl S hX0 hbl hS (by omega) hL dL_law_177 ?_
  refine lv_aload_n S.1 S.2.1 dL_law_178 rfl (lv_at hl 0 rfl) ?_
  refine lv_iload_n S.1 S.2.1 dL_law_179 rfl (lv_at hl 3 rfl) ?_
  refine lv_iconst (v := nI 3) S.1 S.2.1 dL_law_180 (by decide) ?_
  refine zaddN S dL_law_181 ?_
  refine zsl S hX0 hbl hS (by omega) hL dL_law_182 ?_
  refine ZI.callV S hK hP hS hB (kX5_weights l G A Y (xs (i + 1)) (xs (i + 2)) (xs (i + 3))) zwL_27 zeX5_weights rfl ⟨Nat.le_of_ble_eq_true rfl, Nat.le_of_ble_eq_true rfl⟩ (by decide) (zcK0 zk_0) rfl rfl (Nat.le_of_ble_eq_true rfl) hl.1 dL_law_183 ⟨Nat.le_of_ble_eq_true rfl, Nat.le_of_ble_eq_true rfl⟩ (fun r1 Y1 H locs hq1 hP hS => ?_)
  obtain ⟨hM1, hgo⟩ := go_weights hX hM hq1
  refine lv_aload_n S.1 S.2.1 dL_law_186 rfl (lv_at hl 2 rfl) ?_
  refine lv_aload_n S.1 S.2.1 dL_law_187 rfl (lv_at hl 0 rfl) ?_
  refine lv_iload_n S.1 S.2.1 dL_law_188 rfl (lv_at hl 3 rfl) ?_
  refine lv_iconst (v := nI 1) S.1 S.2.1 dL_law_189 (by decide) ?_
  refine zaddN S dL_law_190 ?_
  refine zsl S hX0 hbl hS (by omega) hL dL_law_191 ?_
  refine lv_aload_n S.1 S.2.1 dL_law_192 rfl (lv_at hl 0 rfl) ?_
  refine lv_iload_n S.1 S.2.1 dL_law_193 rfl (lv_at hl 3 rfl) ?_
  refine lv_iconst (v := nI 2) S.1 S.2.1 dL_law_194 (by decide) ?_
  refine zaddN S dL_law_195 ?_
  refine zsl S hX0 hbl hS (by omega) hL dL_law_196 ?_
  refine lv_aload_n S.1 S.2.1 dL_law_197 rfl (lv_at hl 0 rfl) ?_
  refine lv_iload_n S.1 S.2.1 dL_law_198 rfl (lv_at hl 3 rfl) ?_
  refine lv_iconst (v := nI 3) S.1 S.2.1 dL_law_199 (by decide) ?_
  refine zaddN S dL_law_200 ?_
  refine zsl S hX0 hbl hS (by omega) hL dL_law_201 ?_
  refine ZI.callV S hK hP hS hB (kX6_weights l G A Y1 (xs (i + 1)) (xs (i + 2)) (xs (i + 3))) zwL_31 zeX6_weights rfl ⟨Nat.le_of_ble_eq_true rfl, Nat.le_of_ble_eq_true rfl⟩ (by decide) (zcK6 zk_102) rfl rfl (Nat.le_of_ble_eq_true rfl) hl.1 dL_law_202 ⟨Nat.le_of_ble_eq_true rfl, Nat.le_of_ble_eq_true rfl⟩ (fun r2 Y2 H locs hq2 hP hS => ?_)
  obtain ⟨he, hLV2⟩ := hgo _ _ hq2
  exact lv_icmp_eq (tgt := 553) S.1 S.2.1 dL_law_205 (by decide) (fun _ => kk _ _ _ hLV2 hP hS) (fun h9 => absurd he h9)
set_option maxHeartbeats 4000000 in
set_option maxRecDepth 100000 in
theorem lc_bound {p : Program} {l : Launch} {e : Env} {s : State} {m : MethodId} {below : List Frame} {meth : Method} {c : Code} {Q : State → Prop} {b L : Nat} {xs : Nat → Int32} {G : zG} {A : Nat → Nat} {i : Nat} {Y : zY} {H : Heap} {locs : List Loc} {ls : Array Slot} (S : CallFix p m c cL_law 4 s #[Value.ref b] wsL_law RL) (hX0 : va_X b L xs s s.heap) (hbl : b < s.heap.size) (hK : zK G A s) (hB : ∀ q, zAd A q → (fun q : Nat => s.heap.size ≤ q) q) (hL : L ≤ 2048) (hi : i + 4 ≤ L) (hP : va_P G.1 vwCl (zW G A Y) H) (hS : va_S (fun q : Nat => s.heap.size ≤ q) s.heap H locs) (hl : lv_has ls 4 [(0, .ref b), (1, .ref (A 0)), (2, .ref (A 102)), (3, .int (nI i))]) (hLV : LV Y) (kk : ∀ (Y2 : zY) (H2 : Heap) (locs2 : List Loc), LV Y2 → va_P G.1 vwCl (zW G A Y2) H2 → va_S (fun q : Nat => s.heap.size ≤ q) s.heap H2 locs2 → W p l e room_1 s m #[Value.ref b] below meth c H2 locs2 600000 7302250 Q (F0 m 553 ls [])) : W p l e room_1 s m #[Value.ref b] below meth c H locs 600000 7302250 Q (F0 m 210 ls []) := by
  obtain ⟨n, ch, nn, kd, lf, rt, tx, len, ad, mi, wr, bd, nw, wz, wl, f, t, hX, hM⟩ := hLV
  refine lv_aload_n S.1 S.2.1 dL_law_210 rfl (lv_at hl 1 rfl) ?_
  refine lv_aload_n S.1 S.2.1 dL_law_211 rfl (lv_at hl 0 rfl) ?_
  refine lv_iload_n S.1 S.2.1 dL_law_212 rfl (lv_at hl 3 rfl) ?_
  refine lv_iconst (v := nI 1) S.1 S.2.1 dL_law_213 (by decide) ?_
  refine zaddN S dL_law_214 ?_
  refine zsl S hX0 hbl hS (by omega) hL dL_law_215 ?_
  refine ZI.callV S hK hP hS hB (kX5_bound l G A Y (xs (i + 1))) zwL_32 zeX5_bound rfl ⟨Nat.le_of_ble_eq_true rfl, Nat.le_of_ble_eq_true rfl⟩ (by decide) (zcK0 zk_0) rfl rfl (Nat.le_of_ble_eq_true rfl) hl.1 dL_law_216 ⟨Nat.le_of_ble_eq_true rfl, Nat.le_of_ble_eq_true rfl⟩ (fun r1 Y1 H locs hq1 hP hS => ?_)
  obtain ⟨hM1, hgo⟩ := go_bound hX hM hq1
  refine lv_aload_n S.1 S.2.1 dL_law_219 rfl (lv_at hl 2 rfl) ?_
  refine lv_aload_n S.1 S.2.1 dL_law_220 rfl (lv_at hl 0 rfl) ?_
  refine lv_iload_n S.1 S.2.1 dL_law_221 rfl (lv_at hl 3 rfl) ?_
  refine lv_iconst (v := nI 1) S.1 S.2.1 dL_law_222 (by decide) ?_
  refine zaddN S dL_law_223 ?_
  refine zsl S hX0 hbl hS (by omega) hL dL_law_224 ?_
  refine ZI.callV S hK hP hS hB (kX6_bound l G A Y1 (xs (i + 1))) zwL_36 zeX6_bound rfl ⟨Nat.le_of_ble_eq_true rfl, Nat.le_of_ble_eq_true rfl⟩ (by decide) (zcK6 zk_102) rfl rfl (Nat.le_of_ble_eq_true rfl) hl.1 dL_law_225 ⟨Nat.le_of_ble_eq_true rfl, Nat.le_of_ble_eq_true rfl⟩ (fun r2 Y2 H locs hq2 hP hS => ?_)
  obtain ⟨he, hLV2⟩ := hgo _ _ hq2
  exact lv_icmp_eq (tgt := 553) S.1 S.2.1 dL_law_228 (by decide) (fun _ => kk _ _ _ hLV2 hP hS) (fun h9 => absurd he h9)
set_option maxHeartbeats 4000000 in
set_option maxRecDepth 100000 in
theorem lc_write {p : Program} {l : Launch} {e : Env} {s : State} {m : MethodId} {below : List Frame} {meth : Method} {c : Code} {Q : State → Prop} {b L : Nat} {xs : Nat → Int32} {G : zG} {A : Nat → Nat} {i : Nat} {Y : zY} {H : Heap} {locs : List Loc} {ls : Array Slot} (S : CallFix p m c cL_law 4 s #[Value.ref b] wsL_law RL) (hX0 : va_X b L xs s s.heap) (hbl : b < s.heap.size) (hK : zK G A s) (hB : ∀ q, zAd A q → (fun q : Nat => s.heap.size ≤ q) q) (hL : L ≤ 2048) (hi : i + 4 ≤ L) (hP : va_P G.1 vwCl (zW G A Y) H) (hS : va_S (fun q : Nat => s.heap.size ≤ q) s.heap H locs) (hl : lv_has ls 4 [(0, .ref b), (1, .ref (A 0)), (2, .ref (A 102)), (3, .int (nI i))]) (hLV : LV Y) (kk : ∀ (Y2 : zY) (H2 : Heap) (locs2 : List Loc), LV Y2 → va_P G.1 vwCl (zW G A Y2) H2 → va_S (fun q : Nat => s.heap.size ≤ q) s.heap H2 locs2 → W p l e room_1 s m #[Value.ref b] below meth c H2 locs2 600000 7302250 Q (F0 m 553 ls [])) : W p l e room_1 s m #[Value.ref b] below meth c H locs 600000 7302250 Q (F0 m 233 ls []) := by
  obtain ⟨n, ch, nn, kd, lf, rt, tx, len, ad, mi, wr, bd, nw, wz, wl, f, t, hX, hM⟩ := hLV
  refine lv_aload_n S.1 S.2.1 dL_law_233 rfl (lv_at hl 1 rfl) ?_
  refine lv_aload_n S.1 S.2.1 dL_law_234 rfl (lv_at hl 0 rfl) ?_
  refine lv_iload_n S.1 S.2.1 dL_law_235 rfl (lv_at hl 3 rfl) ?_
  refine lv_iconst (v := nI 1) S.1 S.2.1 dL_law_236 (by decide) ?_
  refine zaddN S dL_law_237 ?_
  refine zsl S hX0 hbl hS (by omega) hL dL_law_238 ?_
  refine zi2c S dL_law_239 ?_
  obtain ⟨sz, hXC⟩ := hX.2.2.1
  refine ZI.callV S hK hP hS hB (kX5_write l G A Y len (zch (xs (i + 1))) hXC.2.2.1 (zch_lt _) hXC.2.2.2.2.2.2.2.2.1) zwL_37 zeX5_write rfl ⟨Nat.le_of_ble_eq_true rfl, Nat.le_of_ble_eq_true rfl⟩ (by decide) (zcK0 zk_0) rfl rfl (Nat.le_of_ble_eq_true rfl) hl.1 dL_law_240 ⟨Nat.le_of_ble_eq_true rfl, Nat.le_of_ble_eq_true rfl⟩ (fun r1 Y1 H locs hq1 hP hS => ?_)
  obtain ⟨hM1, hgo⟩ := go_write hX hM hq1
  refine lv_aload_n S.1 S.2.1 dL_law_243 rfl (lv_at hl 2 rfl) ?_
  refine lv_aload_n S.1 S.2.1 dL_law_244 rfl (lv_at hl 0 rfl) ?_
  refine lv_iload_n S.1 S.2.1 dL_law_245 rfl (lv_at hl 3 rfl) ?_
  refine lv_iconst (v := nI 1) S.1 S.2.1 dL_law_246 (by decide) ?_
  refine zaddN S dL_law_247 ?_
  refine zsl S hX0 hbl hS (by omega) hL dL_law_248 ?_
  refine zi2c S dL_law_249 ?_
  refine ZI.callV S hK hP hS hB (kX6_write l G A Y1 len (zch (xs (i + 1))) hM1.2.1.2.1 (zch_lt _) hM1.2.1.2.2.2.2.2.2.2.1) zwL_40 zeX6_write rfl ⟨Nat.le_of_ble_eq_true rfl, Nat.le_of_ble_eq_true rfl⟩ (by decide) (zcK6 zk_102) rfl rfl (Nat.le_of_ble_eq_true rfl) hl.1 dL_law_250 ⟨Nat.le_of_ble_eq_true rfl, Nat.le_of_ble_eq_true rfl⟩ (fun r2 Y2 H locs hq2 hP hS => ?_)
  obtain ⟨he, hLV2⟩ := hgo _ _ hq2
  exact lv_icmp_eq (tgt := 553) S.1 S.2.1 dL_law_253 (by decide) (fun _ => kk _ _ _ hLV2 hP hS) (fun h9 => absurd he h9)
set_option maxHeartbeats 4000000 in
set_option maxRecDepth 100000 in
theorem lc_erase {p : Program} {l : Launch} {e : Env} {s : State} {m : MethodId} {below : List Frame} {meth : Method} {c : Code} {Q : State → Prop} {b L : Nat} {xs : Nat → Int32} {G : zG} {A : Nat → Nat} {i : Nat} {Y : zY} {H : Heap} {locs : List Loc} {ls : Array Slot} (S : CallFix p m c cL_law 4 s #[Value.ref b] wsL_law RL) (hX0 : va_X b L xs s s.heap) (hbl : b < s.heap.size) (hK : zK G A s) (hB : ∀ q, zAd A q → (fun q : Nat => s.heap.size ≤ q) q) (hL : L ≤ 2048) (hi : i + 4 ≤ L) (hP : va_P G.1 vwCl (zW G A Y) H) (hS : va_S (fun q : Nat => s.heap.size ≤ q) s.heap H locs) (hl : lv_has ls 4 [(0, .ref b), (1, .ref (A 0)), (2, .ref (A 102)), (3, .int (nI i))]) (hLV : LV Y) (kk : ∀ (Y2 : zY) (H2 : Heap) (locs2 : List Loc), LV Y2 → va_P G.1 vwCl (zW G A Y2) H2 → va_S (fun q : Nat => s.heap.size ≤ q) s.heap H2 locs2 → W p l e room_1 s m #[Value.ref b] below meth c H2 locs2 600000 7302250 Q (F0 m 553 ls [])) : W p l e room_1 s m #[Value.ref b] below meth c H locs 600000 7302250 Q (F0 m 258 ls []) := by
  obtain ⟨n, ch, nn, kd, lf, rt, tx, len, ad, mi, wr, bd, nw, wz, wl, f, t, hX, hM⟩ := hLV
  refine lv_aload_n S.1 S.2.1 dL_law_258 rfl (lv_at hl 1 rfl) ?_
  refine ZV.callV S hK hP hS hB (kX5_erase l G A Y) zwL_41 zeX5_erase rfl ⟨Nat.le_of_ble_eq_true rfl, Nat.le_of_ble_eq_true rfl⟩ (by decide) (zcK0 zk_0) rfl rfl (Nat.le_of_ble_eq_true rfl) hl.1 dL_law_259 ⟨Nat.le_of_ble_eq_true rfl, Nat.le_of_ble_eq_true rfl⟩ (fun Y1 H locs hq1 hP hS => ?_)
  obtain ⟨hM1, hgo⟩ := go_erase hX hM hq1
  refine lv_aload_n S.1 S.2.1 dL_law_262 rfl (lv_at hl 2 rfl) ?_
  refine ZV.callV S hK hP hS hB (kX6_erase l G A Y1) zwL_44 zeX6_erase rfl ⟨Nat.le_of_ble_eq_true rfl, Nat.le_of_ble_eq_true rfl⟩ (by decide) (zcK6 zk_102) rfl rfl (Nat.le_of_ble_eq_true rfl) hl.1 dL_law_263 ⟨Nat.le_of_ble_eq_true rfl, Nat.le_of_ble_eq_true rfl⟩ (fun Y2 H locs hq2 hP hS => ?_)
  have hLV2 := hgo _ hq2
  exact lv_goto (tgt := 553) S.1 S.2.1 dL_law_266 (by decide) (kk _ _ _ hLV2 hP hS)
set_option maxHeartbeats 4000000 in
set_option maxRecDepth 100000 in
theorem lc_cost {p : Program} {l : Launch} {e : Env} {s : State} {m : MethodId} {below : List Frame} {meth : Method} {c : Code} {Q : State → Prop} {b L : Nat} {xs : Nat → Int32} {G : zG} {A : Nat → Nat} {i : Nat} {Y : zY} {H : Heap} {locs : List Loc} {ls : Array Slot} (S : CallFix p m c cL_law 4 s #[Value.ref b] wsL_law RL) (hX0 : va_X b L xs s s.heap) (hbl : b < s.heap.size) (hK : zK G A s) (hB : ∀ q, zAd A q → (fun q : Nat => s.heap.size ≤ q) q) (hL : L ≤ 2048) (hi : i + 4 ≤ L) (hP : va_P G.1 vwCl (zW G A Y) H) (hS : va_S (fun q : Nat => s.heap.size ≤ q) s.heap H locs) (hl : lv_has ls 4 [(0, .ref b), (1, .ref (A 0)), (2, .ref (A 102)), (3, .int (nI i))]) (hLV : LV Y) (kk : ∀ (Y2 : zY) (H2 : Heap) (locs2 : List Loc), LV Y2 → va_P G.1 vwCl (zW G A Y2) H2 → va_S (fun q : Nat => s.heap.size ≤ q) s.heap H2 locs2 → W p l e room_1 s m #[Value.ref b] below meth c H2 locs2 600000 7302250 Q (F0 m 553 ls [])) : W p l e room_1 s m #[Value.ref b] below meth c H locs 600000 7302250 Q (F0 m 269 ls []) := by
  obtain ⟨n, ch, nn, kd, lf, rt, tx, len, ad, mi, wr, bd, nw, wz, wl, f, t, hX, hM⟩ := hLV
  refine lv_aload_n S.1 S.2.1 dL_law_269 rfl (lv_at hl 1 rfl) ?_
  refine lv_aload_n S.1 S.2.1 dL_law_270 rfl (lv_at hl 0 rfl) ?_
  refine lv_iload_n S.1 S.2.1 dL_law_271 rfl (lv_at hl 3 rfl) ?_
  refine lv_iconst (v := nI 1) S.1 S.2.1 dL_law_272 (by decide) ?_
  refine zaddN S dL_law_273 ?_
  refine zsl S hX0 hbl hS (by omega) hL dL_law_274 ?_
  refine lv_aload_n S.1 S.2.1 dL_law_275 rfl (lv_at hl 0 rfl) ?_
  refine lv_iload_n S.1 S.2.1 dL_law_276 rfl (lv_at hl 3 rfl) ?_
  refine lv_iconst (v := nI 2) S.1 S.2.1 dL_law_277 (by decide) ?_
  refine zaddN S dL_law_278 ?_
  refine zsl S hX0 hbl hS (by omega) hL dL_law_279 ?_
  obtain ⟨sz, hXC⟩ := hX.2.2.1
  obtain ⟨kn, hkn, hXT⟩ := hX.2.2.2.1
  refine ZI.callV S hK hP hS hB (kX5_cost l G A Y (xs (i + 1)) (xs (i + 2)) kn nn kd lf rt tx len ad mi wr sz hXC hkn hXT) zwL_45 zeX5_cost rfl ⟨Nat.le_of_ble_eq_true rfl, Nat.le_of_ble_eq_true rfl⟩ (by decide) (zcK0 zk_0) rfl rfl (Nat.le_of_ble_eq_true rfl) hl.1 dL_law_280 ⟨Nat.le_of_ble_eq_true rfl, Nat.le_of_ble_eq_true rfl⟩ (fun r1 Y1 H locs hq1 hP hS => ?_)
  obtain ⟨hM1, hgo⟩ := go_cost hX hM hq1
  refine lv_aload_n S.1 S.2.1 dL_law_283 rfl (lv_at hl 2 rfl) ?_
  refine lv_aload_n S.1 S.2.1 dL_law_284 rfl (lv_at hl 0 rfl) ?_
  refine lv_iload_n S.1 S.2.1 dL_law_285 rfl (lv_at hl 3 rfl) ?_
  refine lv_iconst (v := nI 1) S.1 S.2.1 dL_law_286 (by decide) ?_
  refine zaddN S dL_law_287 ?_
  refine zsl S hX0 hbl hS (by omega) hL dL_law_288 ?_
  refine lv_aload_n S.1 S.2.1 dL_law_289 rfl (lv_at hl 0 rfl) ?_
  refine lv_iload_n S.1 S.2.1 dL_law_290 rfl (lv_at hl 3 rfl) ?_
  refine lv_iconst (v := nI 2) S.1 S.2.1 dL_law_291 (by decide) ?_
  refine zaddN S dL_law_292 ?_
  refine zsl S hX0 hbl hS (by omega) hL dL_law_293 ?_
  refine ZI.callV S hK hP hS hB (kX6_cost l G A Y1 (xs (i + 1)) (xs (i + 2)) nn kd lf rt tx len ad mi wr (cCost kd lf rt tx ad mi wr) hM1.2.1 rfl hM1.2.2.1) zwL_49 zeX6_cost rfl ⟨Nat.le_of_ble_eq_true rfl, Nat.le_of_ble_eq_true rfl⟩ (by decide) (zcK6 zk_102) rfl rfl (Nat.le_of_ble_eq_true rfl) hl.1 dL_law_294 ⟨Nat.le_of_ble_eq_true rfl, Nat.le_of_ble_eq_true rfl⟩ (fun r2 Y2 H locs hq2 hP hS => ?_)
  obtain ⟨he, hLV2⟩ := hgo _ _ hq2
  exact lv_icmp_eq (tgt := 553) S.1 S.2.1 dL_law_297 (by decide) (fun _ => kk _ _ _ hLV2 hP hS) (fun h9 => absurd he h9)
set_option maxHeartbeats 4000000 in
set_option maxRecDepth 100000 in
theorem lc_find {p : Program} {l : Launch} {e : Env} {s : State} {m : MethodId} {below : List Frame} {meth : Method} {c : Code} {Q : State → Prop} {b L : Nat} {xs : Nat → Int32} {G : zG} {A : Nat → Nat} {i : Nat} {Y : zY} {H : Heap} {locs : List Loc} {ls : Array Slot} (S : CallFix p m c cL_law 4 s #[Value.ref b] wsL_law RL) (hX0 : va_X b L xs s s.heap) (hbl : b < s.heap.size) (hK : zK G A s) (hB : ∀ q, zAd A q → (fun q : Nat => s.heap.size ≤ q) q) (hL : L ≤ 2048) (hi : i + 4 ≤ L) (hP : va_P G.1 vwCl (zW G A Y) H) (hS : va_S (fun q : Nat => s.heap.size ≤ q) s.heap H locs) (hl : lv_has ls 4 [(0, .ref b), (1, .ref (A 0)), (2, .ref (A 102)), (3, .int (nI i))]) (hLV : LV Y) (kk : ∀ (Y2 : zY) (H2 : Heap) (locs2 : List Loc), LV Y2 → va_P G.1 vwCl (zW G A Y2) H2 → va_S (fun q : Nat => s.heap.size ≤ q) s.heap H2 locs2 → W p l e room_1 s m #[Value.ref b] below meth c H2 locs2 600000 7302250 Q (F0 m 553 ls [])) : W p l e room_1 s m #[Value.ref b] below meth c H locs 600000 7302250 Q (F0 m 302 ls []) := by
  obtain ⟨n, ch, nn, kd, lf, rt, tx, len, ad, mi, wr, bd, nw, wz, wl, f, t, hX, hM⟩ := hLV
  refine lv_aload_n S.1 S.2.1 dL_law_302 rfl (lv_at hl 1 rfl) ?_
  refine lv_aload_n S.1 S.2.1 dL_law_303 rfl (lv_at hl 0 rfl) ?_
  refine lv_iload_n S.1 S.2.1 dL_law_304 rfl (lv_at hl 3 rfl) ?_
  refine lv_iconst (v := nI 1) S.1 S.2.1 dL_law_305 (by decide) ?_
  refine zaddN S dL_law_306 ?_
  refine zsl S hX0 hbl hS (by omega) hL dL_law_307 ?_
  refine zbool S dL_law_308 dL_law_311 dL_law_312 dL_law_315 ?_
  obtain ⟨sz, hXC⟩ := hX.2.2.1
  obtain ⟨kn, hkn, hXT⟩ := hX.2.2.2.1
  refine ZI.callV S hK hP hS hB (kX5_find l G A Y (zbz (xs (i + 1))) bd kn nn kd lf rt tx len ad mi wr sz hXC hkn hXT (zbz_le _) hX.2.2.2.2.1.1 hX.2.2.2.2.1.2) zwL_50 zeX5_find rfl ⟨Nat.le_of_ble_eq_true rfl, Nat.le_of_ble_eq_true rfl⟩ (by decide) (zcK0 zk_0) rfl rfl (Nat.le_of_ble_eq_true rfl) hl.1 dL_law_316 ⟨Nat.le_of_ble_eq_true rfl, Nat.le_of_ble_eq_true rfl⟩ (fun r1 Y1 H locs hq1 hP hS => ?_)
  obtain ⟨hM1, hgo⟩ := go_find hX hM hq1
  refine lv_aload_n S.1 S.2.1 dL_law_319 rfl (lv_at hl 2 rfl) ?_
  refine lv_aload_n S.1 S.2.1 dL_law_320 rfl (lv_at hl 0 rfl) ?_
  refine lv_iload_n S.1 S.2.1 dL_law_321 rfl (lv_at hl 3 rfl) ?_
  refine lv_iconst (v := nI 1) S.1 S.2.1 dL_law_322 (by decide) ?_
  refine zaddN S dL_law_323 ?_
  refine zsl S hX0 hbl hS (by omega) hL dL_law_324 ?_
  refine zbool S dL_law_325 dL_law_328 dL_law_329 dL_law_332 ?_
  refine ZI.callV S hK hP hS hB (kX6_find l G A Y1 (zbz (xs (i + 1))) bd nn kd lf rt tx len ad mi wr (cCost kd lf rt tx ad mi wr) hM1.2.1 rfl hM1.2.2.1 (zbz_le _) hM1.2.2.2.1.1 hM1.2.2.2.1.2) zwL_54 zeX6_find rfl ⟨Nat.le_of_ble_eq_true rfl, Nat.le_of_ble_eq_true rfl⟩ (by decide) (zcK6 zk_102) rfl rfl (Nat.le_of_ble_eq_true rfl) hl.1 dL_law_333 ⟨Nat.le_of_ble_eq_true rfl, Nat.le_of_ble_eq_true rfl⟩ (fun r2 Y2 H locs hq2 hP hS => ?_)
  obtain ⟨he, hLV2⟩ := hgo _ _ hq2
  exact lv_icmp_eq (tgt := 553) S.1 S.2.1 dL_law_336 (by decide) (fun _ => kk _ _ _ hLV2 hP hS) (fun h9 => absurd he h9)
set_option maxHeartbeats 4000000 in
set_option maxRecDepth 100000 in
theorem lc_from {p : Program} {l : Launch} {e : Env} {s : State} {m : MethodId} {below : List Frame} {meth : Method} {c : Code} {Q : State → Prop} {b L : Nat} {xs : Nat → Int32} {G : zG} {A : Nat → Nat} {i : Nat} {Y : zY} {H : Heap} {locs : List Loc} {ls : Array Slot} (S : CallFix p m c cL_law 4 s #[Value.ref b] wsL_law RL) (hX0 : va_X b L xs s s.heap) (hbl : b < s.heap.size) (hK : zK G A s) (hB : ∀ q, zAd A q → (fun q : Nat => s.heap.size ≤ q) q) (hL : L ≤ 2048) (hi : i + 4 ≤ L) (hP : va_P G.1 vwCl (zW G A Y) H) (hS : va_S (fun q : Nat => s.heap.size ≤ q) s.heap H locs) (hl : lv_has ls 4 [(0, .ref b), (1, .ref (A 0)), (2, .ref (A 102)), (3, .int (nI i))]) (hLV : LV Y) (kk : ∀ (Y2 : zY) (H2 : Heap) (locs2 : List Loc), LV Y2 → va_P G.1 vwCl (zW G A Y2) H2 → va_S (fun q : Nat => s.heap.size ≤ q) s.heap H2 locs2 → W p l e room_1 s m #[Value.ref b] below meth c H2 locs2 600000 7302250 Q (F0 m 553 ls [])) : W p l e room_1 s m #[Value.ref b] below meth c H locs 600000 7302250 Q (F0 m 341 ls []) := by
  obtain ⟨n, ch, nn, kd, lf, rt, tx, len, ad, mi, wr, bd, nw, wz, wl, f, t, hX, hM⟩ := hLV
  refine lv_aload_n S.1 S.2.1 dL_law_341 rfl (lv_at hl 1 rfl) ?_
  refine ZI.callV S hK hP hS hB (kX5_from l G A Y) zwL_55 zeX5_from rfl ⟨Nat.le_of_ble_eq_true rfl, Nat.le_of_ble_eq_true rfl⟩ (by decide) (zcK0 zk_0) rfl rfl (Nat.le_of_ble_eq_true rfl) hl.1 dL_law_342 ⟨Nat.le_of_ble_eq_true rfl, Nat.le_of_ble_eq_true rfl⟩ (fun r1 Y1 H locs hq1 hP hS => ?_)
  obtain ⟨hM1, hgo⟩ := go_from hX hM hq1
  refine lv_aload_n S.1 S.2.1 dL_law_345 rfl (lv_at hl 2 rfl) ?_
  refine ZI.callV S hK hP hS hB (kX6_from l G A Y1) zwL_58 zeX6_from rfl ⟨Nat.le_of_ble_eq_true rfl, Nat.le_of_ble_eq_true rfl⟩ (by decide) (zcK6 zk_102) rfl rfl (Nat.le_of_ble_eq_true rfl) hl.1 dL_law_346 ⟨Nat.le_of_ble_eq_true rfl, Nat.le_of_ble_eq_true rfl⟩ (fun r2 Y2 H locs hq2 hP hS => ?_)
  obtain ⟨he, hLV2⟩ := hgo _ _ hq2
  exact lv_icmp_eq (tgt := 553) S.1 S.2.1 dL_law_349 (by decide) (fun _ => kk _ _ _ hLV2 hP hS) (fun h9 => absurd he h9)
set_option maxHeartbeats 4000000 in
set_option maxRecDepth 100000 in
theorem lc_to {p : Program} {l : Launch} {e : Env} {s : State} {m : MethodId} {below : List Frame} {meth : Method} {c : Code} {Q : State → Prop} {b L : Nat} {xs : Nat → Int32} {G : zG} {A : Nat → Nat} {i : Nat} {Y : zY} {H : Heap} {locs : List Loc} {ls : Array Slot} (S : CallFix p m c cL_law 4 s #[Value.ref b] wsL_law RL) (hX0 : va_X b L xs s s.heap) (hbl : b < s.heap.size) (hK : zK G A s) (hB : ∀ q, zAd A q → (fun q : Nat => s.heap.size ≤ q) q) (hL : L ≤ 2048) (hi : i + 4 ≤ L) (hP : va_P G.1 vwCl (zW G A Y) H) (hS : va_S (fun q : Nat => s.heap.size ≤ q) s.heap H locs) (hl : lv_has ls 4 [(0, .ref b), (1, .ref (A 0)), (2, .ref (A 102)), (3, .int (nI i))]) (hLV : LV Y) (kk : ∀ (Y2 : zY) (H2 : Heap) (locs2 : List Loc), LV Y2 → va_P G.1 vwCl (zW G A Y2) H2 → va_S (fun q : Nat => s.heap.size ≤ q) s.heap H2 locs2 → W p l e room_1 s m #[Value.ref b] below meth c H2 locs2 600000 7302250 Q (F0 m 553 ls [])) : W p l e room_1 s m #[Value.ref b] below meth c H locs 600000 7302250 Q (F0 m 354 ls []) := by
  obtain ⟨n, ch, nn, kd, lf, rt, tx, len, ad, mi, wr, bd, nw, wz, wl, f, t, hX, hM⟩ := hLV
  refine lv_aload_n S.1 S.2.1 dL_law_354 rfl (lv_at hl 1 rfl) ?_
  refine ZI.callV S hK hP hS hB (kX5_to l G A Y) zwL_59 zeX5_to rfl ⟨Nat.le_of_ble_eq_true rfl, Nat.le_of_ble_eq_true rfl⟩ (by decide) (zcK0 zk_0) rfl rfl (Nat.le_of_ble_eq_true rfl) hl.1 dL_law_355 ⟨Nat.le_of_ble_eq_true rfl, Nat.le_of_ble_eq_true rfl⟩ (fun r1 Y1 H locs hq1 hP hS => ?_)
  obtain ⟨hM1, hgo⟩ := go_to hX hM hq1
  refine lv_aload_n S.1 S.2.1 dL_law_358 rfl (lv_at hl 2 rfl) ?_
  refine ZI.callV S hK hP hS hB (kX6_to l G A Y1) zwL_62 zeX6_to rfl ⟨Nat.le_of_ble_eq_true rfl, Nat.le_of_ble_eq_true rfl⟩ (by decide) (zcK6 zk_102) rfl rfl (Nat.le_of_ble_eq_true rfl) hl.1 dL_law_359 ⟨Nat.le_of_ble_eq_true rfl, Nat.le_of_ble_eq_true rfl⟩ (fun r2 Y2 H locs hq2 hP hS => ?_)
  obtain ⟨he, hLV2⟩ := hgo _ _ hq2
  exact lv_icmp_eq (tgt := 553) S.1 S.2.1 dL_law_362 (by decide) (fun _ => kk _ _ _ hLV2 hP hS) (fun h9 => absurd he h9)
set_option maxHeartbeats 4000000 in
set_option maxRecDepth 100000 in
theorem lc_ends {p : Program} {l : Launch} {e : Env} {s : State} {m : MethodId} {below : List Frame} {meth : Method} {c : Code} {Q : State → Prop} {b L : Nat} {xs : Nat → Int32} {G : zG} {A : Nat → Nat} {i : Nat} {Y : zY} {H : Heap} {locs : List Loc} {ls : Array Slot} (S : CallFix p m c cL_law 4 s #[Value.ref b] wsL_law RL) (hX0 : va_X b L xs s s.heap) (hbl : b < s.heap.size) (hK : zK G A s) (hB : ∀ q, zAd A q → (fun q : Nat => s.heap.size ≤ q) q) (hL : L ≤ 2048) (hi : i + 4 ≤ L) (hP : va_P G.1 vwCl (zW G A Y) H) (hS : va_S (fun q : Nat => s.heap.size ≤ q) s.heap H locs) (hl : lv_has ls 4 [(0, .ref b), (1, .ref (A 0)), (2, .ref (A 102)), (3, .int (nI i))]) (hLV : LV Y) (kk : ∀ (Y2 : zY) (H2 : Heap) (locs2 : List Loc), LV Y2 → va_P G.1 vwCl (zW G A Y2) H2 → va_S (fun q : Nat => s.heap.size ≤ q) s.heap H2 locs2 → W p l e room_1 s m #[Value.ref b] below meth c H2 locs2 600000 7302250 Q (F0 m 553 ls [])) : W p l e room_1 s m #[Value.ref b] below meth c H locs 600000 7302250 Q (F0 m 367 ls []) := by
  obtain ⟨n, ch, nn, kd, lf, rt, tx, len, ad, mi, wr, bd, nw, wz, wl, f, t, hX, hM⟩ := hLV
  refine lv_aload_n S.1 S.2.1 dL_law_367 rfl (lv_at hl 1 rfl) ?_
  obtain ⟨sz, hXC⟩ := hX.2.2.1
  obtain ⟨kn, hkn, hXT⟩ := hX.2.2.2.1
  refine ZI.callV S hK hP hS hB (kX5_ends l G A Y bd kn nn kd lf rt tx len ad mi wr sz hXC hkn hXT hX.2.2.2.2.1.1 hX.2.2.2.2.1.2) zwL_63 zeX5_ends rfl ⟨Nat.le_of_ble_eq_true rfl, Nat.le_of_ble_eq_true rfl⟩ (by decide) (zcK0 zk_0) rfl rfl (Nat.le_of_ble_eq_true rfl) hl.1 dL_law_368 ⟨Nat.le_of_ble_eq_true rfl, Nat.le_of_ble_eq_true rfl⟩ (fun r1 Y1 H locs hq1 hP hS => ?_)
  obtain ⟨hM1, hgo⟩ := go_ends hX hM hq1
  refine lv_aload_n S.1 S.2.1 dL_law_371 rfl (lv_at hl 2 rfl) ?_
  refine ZI.callV S hK hP hS hB (kX6_ends l G A Y1 bd nn kd lf rt tx len ad mi wr (cCost kd lf rt tx ad mi wr) hM1.2.1 rfl hM1.2.2.1 hM1.2.2.2.1.1 hM1.2.2.2.1.2) zwL_66 zeX6_ends rfl ⟨Nat.le_of_ble_eq_true rfl, Nat.le_of_ble_eq_true rfl⟩ (by decide) (zcK6 zk_102) rfl rfl (Nat.le_of_ble_eq_true rfl) hl.1 dL_law_372 ⟨Nat.le_of_ble_eq_true rfl, Nat.le_of_ble_eq_true rfl⟩ (fun r2 Y2 H locs hq2 hP hS => ?_)
  obtain ⟨he, hLV2⟩ := hgo _ _ hq2
  exact lv_icmp_eq (tgt := 553) S.1 S.2.1 dL_law_375 (by decide) (fun _ => kk _ _ _ hLV2 hP hS) (fun h9 => absurd he h9)
set_option maxHeartbeats 4000000 in
set_option maxRecDepth 100000 in
theorem lc_add {p : Program} {l : Launch} {e : Env} {s : State} {m : MethodId} {below : List Frame} {meth : Method} {c : Code} {Q : State → Prop} {b L : Nat} {xs : Nat → Int32} {G : zG} {A : Nat → Nat} {i : Nat} {Y : zY} {H : Heap} {locs : List Loc} {ls : Array Slot} (S : CallFix p m c cL_law 4 s #[Value.ref b] wsL_law RL) (hX0 : va_X b L xs s s.heap) (hbl : b < s.heap.size) (hK : zK G A s) (hB : ∀ q, zAd A q → (fun q : Nat => s.heap.size ≤ q) q) (hL : L ≤ 2048) (hi : i + 4 ≤ L) (hP : va_P G.1 vwCl (zW G A Y) H) (hS : va_S (fun q : Nat => s.heap.size ≤ q) s.heap H locs) (hl : lv_has ls 4 [(0, .ref b), (1, .ref (A 0)), (2, .ref (A 102)), (3, .int (nI i))]) (hLV : LV Y) (kk : ∀ (Y2 : zY) (H2 : Heap) (locs2 : List Loc), LV Y2 → va_P G.1 vwCl (zW G A Y2) H2 → va_S (fun q : Nat => s.heap.size ≤ q) s.heap H2 locs2 → W p l e room_1 s m #[Value.ref b] below meth c H2 locs2 600000 7302250 Q (F0 m 553 ls [])) : W p l e room_1 s m #[Value.ref b] below meth c H locs 600000 7302250 Q (F0 m 380 ls []) := by
  obtain ⟨n, ch, nn, kd, lf, rt, tx, len, ad, mi, wr, bd, nw, wz, wl, f, t, hX, hM⟩ := hLV
  refine lv_aload_n S.1 S.2.1 dL_law_380 rfl (lv_at hl 1 rfl) ?_
  refine ZI.callV S hK hP hS hB (kX5_add l G A Y nw wz wl tx len hX.2.2.2.2.2.2) zwL_67 zeX5_add rfl ⟨Nat.le_of_ble_eq_true rfl, Nat.le_of_ble_eq_true rfl⟩ (by decide) (zcK0 zk_0) rfl rfl (Nat.le_of_ble_eq_true rfl) hl.1 dL_law_381 ⟨Nat.le_of_ble_eq_true rfl, Nat.le_of_ble_eq_true rfl⟩ (fun r1 Y1 H locs hq1 hP hS => ?_)
  obtain ⟨hM1, hgo⟩ := go_add hX hM hq1
  refine lv_aload_n S.1 S.2.1 dL_law_384 rfl (lv_at hl 2 rfl) ?_
  refine ZI.callV S hK hP hS hB (kX6_add l G A Y1 nw wz wl tx len hM1.2.2.2.2.2) zwL_70 zeX6_add rfl ⟨Nat.le_of_ble_eq_true rfl, Nat.le_of_ble_eq_true rfl⟩ (by decide) (zcK6 zk_102) rfl rfl (Nat.le_of_ble_eq_true rfl) hl.1 dL_law_385 ⟨Nat.le_of_ble_eq_true rfl, Nat.le_of_ble_eq_true rfl⟩ (fun r2 Y2 H locs hq2 hP hS => ?_)
  obtain ⟨he, hLV2⟩ := hgo _ _ hq2
  exact lv_icmp_eq (tgt := 553) S.1 S.2.1 dL_law_388 (by decide) (fun _ => kk _ _ _ hLV2 hP hS) (fun h9 => absurd he h9)
set_option maxHeartbeats 4000000 in
set_option maxRecDepth 100000 in
theorem lc_words {p : Program} {l : Launch} {e : Env} {s : State} {m : MethodId} {below : List Frame} {meth : Method} {c : Code} {Q : State → Prop} {b L : Nat} {xs : Nat → Int32} {G : zG} {A : Nat → Nat} {i : Nat} {Y : zY} {H : Heap} {locs : List Loc} {ls : Array Slot} (S : CallFix p m c cL_law 4 s #[Value.ref b] wsL_law RL) (hX0 : va_X b L xs s s.heap) (hbl : b < s.heap.size) (hK : zK G A s) (hB : ∀ q, zAd A q → (fun q : Nat => s.heap.size ≤ q) q) (hL : L ≤ 2048) (hi : i + 4 ≤ L) (hP : va_P G.1 vwCl (zW G A Y) H) (hS : va_S (fun q : Nat => s.heap.size ≤ q) s.heap H locs) (hl : lv_has ls 4 [(0, .ref b), (1, .ref (A 0)), (2, .ref (A 102)), (3, .int (nI i))]) (hLV : LV Y) (kk : ∀ (Y2 : zY) (H2 : Heap) (locs2 : List Loc), LV Y2 → va_P G.1 vwCl (zW G A Y2) H2 → va_S (fun q : Nat => s.heap.size ≤ q) s.heap H2 locs2 → W p l e room_1 s m #[Value.ref b] below meth c H2 locs2 600000 7302250 Q (F0 m 553 ls [])) : W p l e room_1 s m #[Value.ref b] below meth c H locs 600000 7302250 Q (F0 m 393 ls []) := by
  obtain ⟨n, ch, nn, kd, lf, rt, tx, len, ad, mi, wr, bd, nw, wz, wl, f, t, hX, hM⟩ := hLV
  refine lv_aload_n S.1 S.2.1 dL_law_393 rfl (lv_at hl 1 rfl) ?_
  refine ZI.callV S hK hP hS hB (kX5_words l G A Y) zwL_71 zeX5_words rfl ⟨Nat.le_of_ble_eq_true rfl, Nat.le_of_ble_eq_true rfl⟩ (by decide) (zcK0 zk_0) rfl rfl (Nat.le_of_ble_eq_true rfl) hl.1 dL_law_394 ⟨Nat.le_of_ble_eq_true rfl, Nat.le_of_ble_eq_true rfl⟩ (fun r1 Y1 H locs hq1 hP hS => ?_)
  obtain ⟨hM1, hgo⟩ := go_words hX hM hq1
  refine lv_aload_n S.1 S.2.1 dL_law_397 rfl (lv_at hl 2 rfl) ?_
  refine ZI.callV S hK hP hS hB (kX6_words l G A Y1) zwL_74 zeX6_words rfl ⟨Nat.le_of_ble_eq_true rfl, Nat.le_of_ble_eq_true rfl⟩ (by decide) (zcK6 zk_102) rfl rfl (Nat.le_of_ble_eq_true rfl) hl.1 dL_law_398 ⟨Nat.le_of_ble_eq_true rfl, Nat.le_of_ble_eq_true rfl⟩ (fun r2 Y2 H locs hq2 hP hS => ?_)
  obtain ⟨he, hLV2⟩ := hgo _ _ hq2
  exact lv_icmp_eq (tgt := 553) S.1 S.2.1 dL_law_401 (by decide) (fun _ => kk _ _ _ hLV2 hP hS) (fun h9 => absurd he h9)
set_option maxHeartbeats 4000000 in
set_option maxRecDepth 100000 in
theorem lc_distance {p : Program} {l : Launch} {e : Env} {s : State} {m : MethodId} {below : List Frame} {meth : Method} {c : Code} {Q : State → Prop} {b L : Nat} {xs : Nat → Int32} {G : zG} {A : Nat → Nat} {i : Nat} {Y : zY} {H : Heap} {locs : List Loc} {ls : Array Slot} (S : CallFix p m c cL_law 4 s #[Value.ref b] wsL_law RL) (hX0 : va_X b L xs s s.heap) (hbl : b < s.heap.size) (hK : zK G A s) (hB : ∀ q, zAd A q → (fun q : Nat => s.heap.size ≤ q) q) (hL : L ≤ 2048) (hi : i + 4 ≤ L) (hP : va_P G.1 vwCl (zW G A Y) H) (hS : va_S (fun q : Nat => s.heap.size ≤ q) s.heap H locs) (hl : lv_has ls 4 [(0, .ref b), (1, .ref (A 0)), (2, .ref (A 102)), (3, .int (nI i))]) (hLV : LV Y) (kk : ∀ (Y2 : zY) (H2 : Heap) (locs2 : List Loc), LV Y2 → va_P G.1 vwCl (zW G A Y2) H2 → va_S (fun q : Nat => s.heap.size ≤ q) s.heap H2 locs2 → W p l e room_1 s m #[Value.ref b] below meth c H2 locs2 600000 7302250 Q (F0 m 553 ls [])) : W p l e room_1 s m #[Value.ref b] below meth c H locs 600000 7302250 Q (F0 m 406 ls []) := by
  obtain ⟨n, ch, nn, kd, lf, rt, tx, len, ad, mi, wr, bd, nw, wz, wl, f, t, hX, hM⟩ := hLV
  refine lv_aload_n S.1 S.2.1 dL_law_406 rfl (lv_at hl 1 rfl) ?_
  refine lv_aload_n S.1 S.2.1 dL_law_407 rfl (lv_at hl 0 rfl) ?_
  refine lv_iload_n S.1 S.2.1 dL_law_408 rfl (lv_at hl 3 rfl) ?_
  refine lv_iconst (v := nI 1) S.1 S.2.1 dL_law_409 (by decide) ?_
  refine zaddN S dL_law_410 ?_
  refine zsl S hX0 hbl hS (by omega) hL dL_law_411 ?_
  refine lv_aload_n S.1 S.2.1 dL_law_412 rfl (lv_at hl 0 rfl) ?_
  refine lv_iload_n S.1 S.2.1 dL_law_413 rfl (lv_at hl 3 rfl) ?_
  refine lv_iconst (v := nI 2) S.1 S.2.1 dL_law_414 (by decide) ?_
  refine zaddN S dL_law_415 ?_
  refine zsl S hX0 hbl hS (by omega) hL dL_law_416 ?_
  refine zbool S dL_law_417 dL_law_420 dL_law_421 dL_law_424 ?_
  refine ZI.callV S hK hP hS hB (kX5_distance l G A Y (xs (i + 1)) (zbz (xs (i + 2))) nw wz wl tx len hX.2.2.2.2.2.2 (zbz_le _)) zwL_75 zeX5_distance rfl ⟨Nat.le_of_ble_eq_true rfl, Nat.le_of_ble_eq_true rfl⟩ (by decide) (zcK0 zk_0) rfl rfl (Nat.le_of_ble_eq_true rfl) hl.1 dL_law_425 ⟨Nat.le_of_ble_eq_true rfl, Nat.le_of_ble_eq_true rfl⟩ (fun r1 Y1 H locs hq1 hP hS => ?_)
  obtain ⟨hM1, hgo⟩ := go_distance hX hM hq1
  refine lv_aload_n S.1 S.2.1 dL_law_428 rfl (lv_at hl 2 rfl) ?_
  refine lv_aload_n S.1 S.2.1 dL_law_429 rfl (lv_at hl 0 rfl) ?_
  refine lv_iload_n S.1 S.2.1 dL_law_430 rfl (lv_at hl 3 rfl) ?_
  refine lv_iconst (v := nI 1) S.1 S.2.1 dL_law_431 (by decide) ?_
  refine zaddN S dL_law_432 ?_
  refine zsl S hX0 hbl hS (by omega) hL dL_law_433 ?_
  refine lv_aload_n S.1 S.2.1 dL_law_434 rfl (lv_at hl 0 rfl) ?_
  refine lv_iload_n S.1 S.2.1 dL_law_435 rfl (lv_at hl 3 rfl) ?_
  refine lv_iconst (v := nI 2) S.1 S.2.1 dL_law_436 (by decide) ?_
  refine zaddN S dL_law_437 ?_
  refine zsl S hX0 hbl hS (by omega) hL dL_law_438 ?_
  refine zbool S dL_law_439 dL_law_442 dL_law_443 dL_law_446 ?_
  refine ZI.callV S hK hP hS hB (kX6_distance l G A Y1 (xs (i + 1)) (zbz (xs (i + 2))) nw wz wl tx len hM1.2.2.2.2.2 (zbz_le _)) zwL_79 zeX6_distance rfl ⟨Nat.le_of_ble_eq_true rfl, Nat.le_of_ble_eq_true rfl⟩ (by decide) (zcK6 zk_102) rfl rfl (Nat.le_of_ble_eq_true rfl) hl.1 dL_law_447 ⟨Nat.le_of_ble_eq_true rfl, Nat.le_of_ble_eq_true rfl⟩ (fun r2 Y2 H locs hq2 hP hS => ?_)
  obtain ⟨he, hLV2⟩ := hgo _ _ hq2
  exact lv_icmp_eq (tgt := 553) S.1 S.2.1 dL_law_450 (by decide) (fun _ => kk _ _ _ hLV2 hP hS) (fun h9 => absurd he h9)
set_option maxHeartbeats 4000000 in
set_option maxRecDepth 100000 in
theorem lc_near {p : Program} {l : Launch} {e : Env} {s : State} {m : MethodId} {below : List Frame} {meth : Method} {c : Code} {Q : State → Prop} {b L : Nat} {xs : Nat → Int32} {G : zG} {A : Nat → Nat} {i : Nat} {Y : zY} {H : Heap} {locs : List Loc} {ls : Array Slot} (S : CallFix p m c cL_law 4 s #[Value.ref b] wsL_law RL) (hX0 : va_X b L xs s s.heap) (hbl : b < s.heap.size) (hK : zK G A s) (hB : ∀ q, zAd A q → (fun q : Nat => s.heap.size ≤ q) q) (hL : L ≤ 2048) (hi : i + 4 ≤ L) (hP : va_P G.1 vwCl (zW G A Y) H) (hS : va_S (fun q : Nat => s.heap.size ≤ q) s.heap H locs) (hl : lv_has ls 4 [(0, .ref b), (1, .ref (A 0)), (2, .ref (A 102)), (3, .int (nI i))]) (hLV : LV Y) (kk : ∀ (Y2 : zY) (H2 : Heap) (locs2 : List Loc), LV Y2 → va_P G.1 vwCl (zW G A Y2) H2 → va_S (fun q : Nat => s.heap.size ≤ q) s.heap H2 locs2 → W p l e room_1 s m #[Value.ref b] below meth c H2 locs2 600000 7302250 Q (F0 m 553 ls [])) : W p l e room_1 s m #[Value.ref b] below meth c H locs 600000 7302250 Q (F0 m 455 ls []) := by
  obtain ⟨n, ch, nn, kd, lf, rt, tx, len, ad, mi, wr, bd, nw, wz, wl, f, t, hX, hM⟩ := hLV
  refine lv_aload_n S.1 S.2.1 dL_law_455 rfl (lv_at hl 1 rfl) ?_
  refine lv_aload_n S.1 S.2.1 dL_law_456 rfl (lv_at hl 0 rfl) ?_
  refine lv_iload_n S.1 S.2.1 dL_law_457 rfl (lv_at hl 3 rfl) ?_
  refine lv_iconst (v := nI 1) S.1 S.2.1 dL_law_458 (by decide) ?_
  refine zaddN S dL_law_459 ?_
  refine zsl S hX0 hbl hS (by omega) hL dL_law_460 ?_
  refine lv_aload_n S.1 S.2.1 dL_law_461 rfl (lv_at hl 0 rfl) ?_
  refine lv_iload_n S.1 S.2.1 dL_law_462 rfl (lv_at hl 3 rfl) ?_
  refine lv_iconst (v := nI 2) S.1 S.2.1 dL_law_463 (by decide) ?_
  refine zaddN S dL_law_464 ?_
  refine zsl S hX0 hbl hS (by omega) hL dL_law_465 ?_
  refine zbool S dL_law_466 dL_law_469 dL_law_470 dL_law_473 ?_
  refine ZI.callV S hK hP hS hB (kX5_near l G A Y (xs (i + 1)) (zbz (xs (i + 2))) nw wz wl tx len hX.2.2.2.2.2.2 (zbz_le _)) zwL_80 zeX5_near rfl ⟨Nat.le_of_ble_eq_true rfl, Nat.le_of_ble_eq_true rfl⟩ (by decide) (zcK0 zk_0) rfl rfl (Nat.le_of_ble_eq_true rfl) hl.1 dL_law_474 ⟨Nat.le_of_ble_eq_true rfl, Nat.le_of_ble_eq_true rfl⟩ (fun r1 Y1 H locs hq1 hP hS => ?_)
  obtain ⟨hM1, hgo⟩ := go_near hX hM hq1
  refine lv_aload_n S.1 S.2.1 dL_law_477 rfl (lv_at hl 2 rfl) ?_
  refine lv_aload_n S.1 S.2.1 dL_law_478 rfl (lv_at hl 0 rfl) ?_
  refine lv_iload_n S.1 S.2.1 dL_law_479 rfl (lv_at hl 3 rfl) ?_
  refine lv_iconst (v := nI 1) S.1 S.2.1 dL_law_480 (by decide) ?_
  refine zaddN S dL_law_481 ?_
  refine zsl S hX0 hbl hS (by omega) hL dL_law_482 ?_
  refine lv_aload_n S.1 S.2.1 dL_law_483 rfl (lv_at hl 0 rfl) ?_
  refine lv_iload_n S.1 S.2.1 dL_law_484 rfl (lv_at hl 3 rfl) ?_
  refine lv_iconst (v := nI 2) S.1 S.2.1 dL_law_485 (by decide) ?_
  refine zaddN S dL_law_486 ?_
  refine zsl S hX0 hbl hS (by omega) hL dL_law_487 ?_
  refine zbool S dL_law_488 dL_law_491 dL_law_492 dL_law_495 ?_
  refine ZI.callV S hK hP hS hB (kX6_near l G A Y1 (xs (i + 1)) (zbz (xs (i + 2))) nw wz wl tx len hM1.2.2.2.2.2 (zbz_le _)) zwL_83 zeX6_near rfl ⟨Nat.le_of_ble_eq_true rfl, Nat.le_of_ble_eq_true rfl⟩ (by decide) (zcK6 zk_102) rfl rfl (Nat.le_of_ble_eq_true rfl) hl.1 dL_law_496 ⟨Nat.le_of_ble_eq_true rfl, Nat.le_of_ble_eq_true rfl⟩ (fun r2 Y2 H locs hq2 hP hS => ?_)
  obtain ⟨he, hLV2⟩ := hgo _ _ hq2
  exact lv_icmp_eq (tgt := 553) S.1 S.2.1 dL_law_499 (by decide) (fun _ => kk _ _ _ hLV2 hP hS) (fun h9 => absurd he h9)
set_option maxHeartbeats 4000000 in
set_option maxRecDepth 100000 in
theorem lc_rank {p : Program} {l : Launch} {e : Env} {s : State} {m : MethodId} {below : List Frame} {meth : Method} {c : Code} {Q : State → Prop} {b L : Nat} {xs : Nat → Int32} {G : zG} {A : Nat → Nat} {i : Nat} {Y : zY} {H : Heap} {locs : List Loc} {ls : Array Slot} (S : CallFix p m c cL_law 4 s #[Value.ref b] wsL_law RL) (hX0 : va_X b L xs s s.heap) (hbl : b < s.heap.size) (hK : zK G A s) (hB : ∀ q, zAd A q → (fun q : Nat => s.heap.size ≤ q) q) (hL : L ≤ 2048) (hi : i + 4 ≤ L) (hP : va_P G.1 vwCl (zW G A Y) H) (hS : va_S (fun q : Nat => s.heap.size ≤ q) s.heap H locs) (hl : lv_has ls 4 [(0, .ref b), (1, .ref (A 0)), (2, .ref (A 102)), (3, .int (nI i))]) (hLV : LV Y) (kk : ∀ (Y2 : zY) (H2 : Heap) (locs2 : List Loc), LV Y2 → va_P G.1 vwCl (zW G A Y2) H2 → va_S (fun q : Nat => s.heap.size ≤ q) s.heap H2 locs2 → W p l e room_1 s m #[Value.ref b] below meth c H2 locs2 600000 7302250 Q (F0 m 553 ls [])) : W p l e room_1 s m #[Value.ref b] below meth c H locs 600000 7302250 Q (F0 m 504 ls []) := by
  obtain ⟨n, ch, nn, kd, lf, rt, tx, len, ad, mi, wr, bd, nw, wz, wl, f, t, hX, hM⟩ := hLV
  refine lv_aload_n S.1 S.2.1 dL_law_504 rfl (lv_at hl 1 rfl) ?_
  refine lv_aload_n S.1 S.2.1 dL_law_505 rfl (lv_at hl 0 rfl) ?_
  refine lv_iload_n S.1 S.2.1 dL_law_506 rfl (lv_at hl 3 rfl) ?_
  refine lv_iconst (v := nI 1) S.1 S.2.1 dL_law_507 (by decide) ?_
  refine zaddN S dL_law_508 ?_
  refine zsl S hX0 hbl hS (by omega) hL dL_law_509 ?_
  refine lv_aload_n S.1 S.2.1 dL_law_510 rfl (lv_at hl 0 rfl) ?_
  refine lv_iload_n S.1 S.2.1 dL_law_511 rfl (lv_at hl 3 rfl) ?_
  refine lv_iconst (v := nI 2) S.1 S.2.1 dL_law_512 (by decide) ?_
  refine zaddN S dL_law_513 ?_
  refine zsl S hX0 hbl hS (by omega) hL dL_law_514 ?_
  refine zbool S dL_law_515 dL_law_518 dL_law_519 dL_law_522 ?_
  refine ZI.callV S hK hP hS hB (kX5_rank l G A Y (xs (i + 1)) (zbz (xs (i + 2))) nw wz wl tx len hX.2.2.2.2.2.2 (zbz_le _)) zwL_84 zeX5_rank rfl ⟨Nat.le_of_ble_eq_true rfl, Nat.le_of_ble_eq_true rfl⟩ (by decide) (zcK0 zk_0) rfl rfl (Nat.le_of_ble_eq_true rfl) hl.1 dL_law_523 ⟨Nat.le_of_ble_eq_true rfl, Nat.le_of_ble_eq_true rfl⟩ (fun r1 Y1 H locs hq1 hP hS => ?_)
  obtain ⟨hM1, hgo⟩ := go_rank hX hM hq1
  refine lv_aload_n S.1 S.2.1 dL_law_526 rfl (lv_at hl 2 rfl) ?_
  refine lv_aload_n S.1 S.2.1 dL_law_527 rfl (lv_at hl 0 rfl) ?_
  refine lv_iload_n S.1 S.2.1 dL_law_528 rfl (lv_at hl 3 rfl) ?_
  refine lv_iconst (v := nI 1) S.1 S.2.1 dL_law_529 (by decide) ?_
  refine zaddN S dL_law_530 ?_
  refine zsl S hX0 hbl hS (by omega) hL dL_law_531 ?_
  refine lv_aload_n S.1 S.2.1 dL_law_532 rfl (lv_at hl 0 rfl) ?_
  refine lv_iload_n S.1 S.2.1 dL_law_533 rfl (lv_at hl 3 rfl) ?_
  refine lv_iconst (v := nI 2) S.1 S.2.1 dL_law_534 (by decide) ?_
  refine zaddN S dL_law_535 ?_
  refine zsl S hX0 hbl hS (by omega) hL dL_law_536 ?_
  refine zbool S dL_law_537 dL_law_540 dL_law_541 dL_law_544 ?_
  refine ZI.callV S hK hP hS hB (kX6_rank l G A Y1 (xs (i + 1)) (zbz (xs (i + 2))) nw wz wl tx len hM1.2.2.2.2.2 (zbz_le _)) zwL_87 zeX6_rank rfl ⟨Nat.le_of_ble_eq_true rfl, Nat.le_of_ble_eq_true rfl⟩ (by decide) (zcK6 zk_102) rfl rfl (Nat.le_of_ble_eq_true rfl) hl.1 dL_law_545 ⟨Nat.le_of_ble_eq_true rfl, Nat.le_of_ble_eq_true rfl⟩ (fun r2 Y2 H locs hq2 hP hS => ?_)
  obtain ⟨he, hLV2⟩ := hgo _ _ hq2
  exact lv_icmp_eq (tgt := 553) S.1 S.2.1 dL_law_548 (by decide) (fun _ => kk _ _ _ hLV2 hP hS) (fun h9 => absurd he h9)
