section ZC3
variable {p : Program} {l : Launch} {e : Env} {R : Room} {s : State} {m : MethodId} {args : Array Value} {below : List Frame} {meth : Method} {c : Code} {H : Heap} {locs : List Loc} {cells slots : Nat} {Q : State → Prop}
variable {cc : ByteArray} {pc nL : Nat} {ls : Array Slot} {rest : List Value} {G : zG} {ws W0 : va_W} {B0 : Nat → Prop} {H0 : Heap} {own : String}
theorem zcNewQ (S : CallFix p m c cc nL s args wsL_law own) (hK : zKc G s) (hP : va_P G.1 vwCl ws H) (hD : va_D B0 ws) (hS : va_S B0 H0 H locs) (hA : ∀ q, H0.size ≤ q → B0 q) {k : Nat} (hk : k ≤ 15000) {index : Nat} (hl : Cond.classLink own index RX3 ∈ wsL_law) (hcells : cells + 1 ≤ R.cells) (hslots : slots + k ≤ R.slots) (hdg : decode cc pc = .ok (.anewarray index, 3))
    (kk : ∀ (q : Nat) (H1 : Heap), va_P G.1 vwCl (ws ++ [(q, .inl (G.2.2.2.1, k, .inr (.inr (.inr (.inr (fun _ => none))))))]) H1 → va_D B0 (ws ++ [(q, .inl (G.2.2.2.1, k, .inr (.inr (.inr (.inr (fun _ => none))))))]) → va_S B0 H0 H1 locs → W p l e R s m args below meth c H1 locs (cells + 1) (slots + k) Q (F0 m (pc + 3) ls (.ref q :: rest))) : W p l e R s m args below meth c H locs cells slots Q (F0 m pc ls (.int (nI k) :: rest)) := by
  refine va_newq (C := "FuzzyFinder$Letters") (n := nI k) (N' := k) S.1 S.2.1 S.2.2.2.1 (S.2.2.2.2 _ hl) hK.2.2.1 hK.1 hP hD hS hA (nI_pos (by omega)) (nI_clamp (by omega)) (by omega) hcells hslots hdg (fun q cA H1 hK9 hP9 hD9 hS9 => ?_)
  obtain ⟨_, _, _, _, _, e1⟩ := (hK9.2 4 _ rfl).2
  obtain ⟨_, _, _, _, _, e2⟩ := (hK.1.2 2 _ rfl).2
  have e : cA = G.2.2.2.1 := Option.some.inj (e1.symm.trans e2)
  subst e
  exact kk q H1 hP9 hD9 hS9
theorem zc_mid1 {x y : Nat × va_E} {T : va_W} : (W0 ++ x :: y :: T)[W0.length + 1]? = some y := by
  rw [List.getElem?_append_right (by omega), Nat.add_sub_cancel_left]; rfl
theorem zc_set1 {x y z : Nat × va_E} {T : va_W} : (W0 ++ x :: y :: T).set (W0.length + 1) z = W0 ++ x :: z :: T := by
  rw [List.set_append_right _ _ (by omega), Nat.add_sub_cancel_left]; rfl
end ZC3
/-- i new words -/
def zLW (G : zG) (i : Nat) (v w : Nat → Nat) : va_W := (List.range i).flatMap (fun j => [(v j, .inr (3, [.ref (w j), .int (nI 0)])), (w j, .inl (G.2.2.1, 24, .inl (fun _ => 0)))])
theorem zLW_s {G : zG} {i q x : Nat} {v w : Nat → Nat} : zLW G (i + 1) (va_up v i q) (va_up w i x) = zLW G i v w ++ [(q, .inr (3, [.ref x, .int (nI 0)])), (x, .inl (G.2.2.1, 24, .inl (fun _ => 0)))] := by
  unfold zLW
  rw [List.range_succ, List.flatMap_append]
  congr 1
  · rw [List.flatMap_def, List.flatMap_def]
    congr 1
    apply List.map_congr_left
    intro j hj
    have h : j ≠ i := by have := List.mem_range.mp hj; omega
    rw [va_up_ne _ _ h, va_up_ne _ _ h]
  · simp [va_up]
def zX1 (G : zG) (W0 : va_W) (q0 q1 q2 q3 : Nat) (r : Nat → Nat) (i : Nat) (v w : Nat → Nat) : va_W := W0 ++ ((q0, .inr (1, [.ref q1, .int (nI 0), .ref q2, .ref q3])) :: ((q1, .inl (G.2.2.2.1, 20, .inr (.inr (.inr (.inr (fun j => if j < i then some (v j) else none)))))) :: ((q2, .inl (G.2.1, 20, .inl (fun _ => 0))) :: ((q3, .inl (G.2.2.2.2, 13, .inr (.inr (.inr (.inr (fun i => if i < 13 then some (r i) else none)))))) :: ((List.range 13).map (fun i => (r i, .inl (G.2.1, 25, .inl (fun _ => 0)))) ++ zLW G i v w)))))
theorem zX1_s {G : zG} {W0 : va_W} {q0 q1 q2 q3 i q x : Nat} {r v w : Nat → Nat} : (zX1 G W0 q0 q1 q2 q3 r i v w ++ ([(q, .inr (3, [.ref x, .int (nI 0)])), (x, .inl (G.2.2.1, 24, .inl (fun _ => 0)))] : va_W)).set (W0.length + 1) (q1, .inl (G.2.2.2.1, 20, .inr (.inr (.inr (.inr (va_up (fun j => if j < i then some (v j) else none) i (some q))))))) = zX1 G W0 q0 q1 q2 q3 r (i + 1) (va_up v i q) (va_up w i x) := by
  have ef : va_up (fun j => if j < i then some (v j) else none) i (some q) = fun j => if j < i + 1 then some (va_up v i q j) else none := by
    funext j
    by_cases h : j = i
    · subst h; simp [va_up]
    · by_cases h2 : j < i
      · simp [va_up, h, h2, Nat.lt_succ_of_lt h2]
      · simp [va_up, h, h2, show ¬ j < i + 1 by omega]
  unfold zX1
  rw [zLW_s, ef]
  simp only [List.append_assoc, List.cons_append]
  rw [zc_set1]
set_option maxHeartbeats 8000000 in
set_option maxRecDepth 100000 in
theorem kX1_init (l : Launch) (G : zG) (W0 : va_W) (q0 sz : Nat) : ZC l yX1_init cX1_init 2 2 40 56 898 G (W0 ++ [(q0, .inr (1, [.null, .int 0, .null, .null]))]) q0 sz (fun u => zX1 G W0 q0 (u 0 0) (u 0 1) (u 0 2) (u 1) 20 (u 2) (u 3)) := by
  refine ZC.enter (by decide) rfl (Nat.le_of_ble_eq_true rfl) ?_
  generalize hX : W0 ++ [(q0, .inr (1, [.null, .int 0, .null, .null]))] = X
  intro p e s m args below meth c Q hxx hbb S hK hin hA hret H ls hP hD hS hl
  have hl : lv_has ls 2 [(0, .ref q0)] := hl
  have S : CallFix p m c cX1_init 2 s args wsL_law RX1 := S
  rw [← hX] at hP
  have hD : va_D (va_A X sz) (W0 ++ [(q0, .inr (1, [.null, .int 0, .null, .null]))]) := by { have h9 := hD; rw [← hX] at h9 ⊢; exact h9 }
  refine lv_aload_n hxx hbb dX1_init_0 rfl (lv_at hl 0 rfl) ?_
  refine W.objInit hxx hbb S.2.2.2.1 (S.2.2.2.2 (.methodLink RX1 3 objectInit) (List.mem_of_getElem? (i := 77) (by decide +kernel))) (S.2.2.2.2 (.instanceMethod objectInit) (List.mem_of_getElem? (i := 10) (by decide +kernel))) (S.2.2.2.2 (.code objectInit ⟨#[0xb1]⟩ 1 none) (List.mem_of_getElem? (i := 11) (by decide +kernel))) rfl (by rw [S.2.2.1]; exact hl.1) rfl dX1_init_1 (Nat.le_of_ble_eq_true rfl) (Nat.le_of_ble_eq_true rfl) ?_
  refine W.eq (g2 := F0 m 4 ls []) rfl ?_
  refine lv_aload_n hxx hbb dX1_init_4 rfl (lv_at hl 0 rfl) ?_
  refine lv_bipush (v := nI 20) hxx hbb dX1_init_5 (by decide) ?_
  refine zcNewQ S hK hP hD hS hA (k := 20) (by decide) (List.mem_of_getElem? (i := 78) (by decide +kernel)) (Nat.le_of_ble_eq_true rfl) (Nat.le_of_ble_eq_true rfl) dX1_init_7 (fun q11 H hP hD hS => ?_)
  have hP : va_P G.1 vwCl (W0 ++ [(q0, .inr (1, [.null, .int 0, .null, .null])), (q11, .inl (G.2.2.2.1, 20, .inr (.inr (.inr (.inr (fun _ => none))))))]) H := by simpa only [List.append_assoc, List.cons_append, List.nil_append] using hP
  have hD : va_D (va_A X sz) (W0 ++ [(q0, .inr (1, [.null, .int 0, .null, .null])), (q11, .inl (G.2.2.2.1, 20, .inr (.inr (.inr (.inr (fun _ => none))))))]) := by simpa only [List.append_assoc, List.cons_append, List.nil_append] using hD
  refine zcPF S hK hP hD hS (C := RX1) (T9 := TX1) (N := 4) rfl inlX1 tyX1 tyX1_ok nmX1 0 (by decide) (List.mem_of_getElem? (i := 79) (by decide +kernel)) rfl hin rfl (ty := .array (.object "FuzzyFinder$Letters")) (by decide +kernel) rfl rfl (Nat.le_of_ble_eq_true rfl) dX1_init_10 (fun H locs hP hD hS => ?_)
  have hP : va_P G.1 vwCl (W0 ++ [(q0, .inr (1, [.ref q11, .int 0, .null, .null])), (q11, .inl (G.2.2.2.1, 20, .inr (.inr (.inr (.inr (fun _ => none))))))]) H := hP
  have hD : va_D (va_A X sz) (W0 ++ [(q0, .inr (1, [.ref q11, .int 0, .null, .null])), (q11, .inl (G.2.2.2.1, 20, .inr (.inr (.inr (.inr (fun _ => none))))))]) := hD
  refine lv_aload_n hxx hbb dX1_init_13 rfl (lv_at hl 0 rfl) ?_
  refine lv_iconst (v := nI 0) hxx hbb dX1_init_14 (by decide) ?_
  refine zcPI S hK hP hD hS (C := RX1) (T9 := TX1) (N := 4) rfl inlX1 tyX1 tyX1_ok nmX1 1 (by decide) (List.mem_of_getElem? (i := 80) (by decide +kernel)) rfl (ty := .int) (by decide +kernel) (by first | rfl | decide) (by first | rfl | decide) (Nat.le_of_ble_eq_true rfl) dX1_init_15 (fun H locs hP hD hS => ?_)
  have hP : va_P G.1 vwCl (W0 ++ [(q0, .inr (1, [.ref q11, .int (nI 0), .null, .null])), (q11, .inl (G.2.2.2.1, 20, .inr (.inr (.inr (.inr (fun _ => none))))))]) H := hP
  have hD : va_D (va_A X sz) (W0 ++ [(q0, .inr (1, [.ref q11, .int (nI 0), .null, .null])), (q11, .inl (G.2.2.2.1, 20, .inr (.inr (.inr (.inr (fun _ => none))))))]) := hD
  refine lv_aload_n hxx hbb dX1_init_18 rfl (lv_at hl 0 rfl) ?_
  refine lv_bipush (v := nI 20) hxx hbb dX1_init_19 (by decide) ?_
  refine zcNewI S hK hP hD hS hA (k := 20) (by decide) (Nat.le_of_ble_eq_true rfl) (Nat.le_of_ble_eq_true rfl) dX1_init_21 (fun q12 H hP hD hS => ?_)
  have hP : va_P G.1 vwCl (W0 ++ [(q0, .inr (1, [.ref q11, .int (nI 0), .null, .null])), (q11, .inl (G.2.2.2.1, 20, .inr (.inr (.inr (.inr (fun _ => none)))))), (q12, .inl (G.2.1, 20, .inl (fun _ => 0)))]) H := by simpa only [List.append_assoc, List.cons_append, List.nil_append] using hP
  have hD : va_D (va_A X sz) (W0 ++ [(q0, .inr (1, [.ref q11, .int (nI 0), .null, .null])), (q11, .inl (G.2.2.2.1, 20, .inr (.inr (.inr (.inr (fun _ => none)))))), (q12, .inl (G.2.1, 20, .inl (fun _ => 0)))]) := by simpa only [List.append_assoc, List.cons_append, List.nil_append] using hD
  refine zcPF S hK hP hD hS (C := RX1) (T9 := TX1) (N := 4) rfl inlX1 tyX1 tyX1_ok nmX1 2 (by decide) (List.mem_of_getElem? (i := 81) (by decide +kernel)) rfl hin rfl (ty := .array .int) (by decide +kernel) rfl rfl (Nat.le_of_ble_eq_true rfl) dX1_init_23 (fun H locs hP hD hS => ?_)
  have hP : va_P G.1 vwCl (W0 ++ [(q0, .inr (1, [.ref q11, .int (nI 0), .ref q12, .null])), (q11, .inl (G.2.2.2.1, 20, .inr (.inr (.inr (.inr (fun _ => none)))))), (q12, .inl (G.2.1, 20, .inl (fun _ => 0)))]) H := hP
  have hD : va_D (va_A X sz) (W0 ++ [(q0, .inr (1, [.ref q11, .int (nI 0), .ref q12, .null])), (q11, .inl (G.2.2.2.1, 20, .inr (.inr (.inr (.inr (fun _ => none)))))), (q12, .inl (G.2.1, 20, .inl (fun _ => 0)))]) := hD
  refine lv_aload_n hxx hbb dX1_init_26 rfl (lv_at hl 0 rfl) ?_
  refine lv_bipush (v := nI 13) hxx hbb dX1_init_27 (by decide) ?_
  refine lv_bipush (v := nI 25) hxx hbb dX1_init_29 (by decide) ?_
  refine zcMna S hK hP hD hS hA (N := 13) (k := 25) (by decide) (by decide) (List.mem_of_getElem? (i := 82) (by decide +kernel)) (Nat.le_of_ble_eq_true rfl) (Nat.le_of_ble_eq_true rfl) dX1_init_31 (fun q13 r13 H hP hD hS => ?_)
  have hP : va_P G.1 vwCl (W0 ++ ((q0, .inr (1, [.ref q11, .int (nI 0), .ref q12, .null])) :: ((q11, .inl (G.2.2.2.1, 20, .inr (.inr (.inr (.inr (fun _ => none)))))) :: ((q12, .inl (G.2.1, 20, .inl (fun _ => 0))) :: ((q13, .inl (G.2.2.2.2, 13, .inr (.inr (.inr (.inr (fun i => if i < 13 then some (r13 i) else none)))))) :: ((List.range 13).map (fun i => (r13 i, .inl (G.2.1, 25, .inl (fun _ => 0)))) ++ ([]))))))) H := by simpa only [List.append_assoc, List.cons_append, List.nil_append, List.append_nil] using hP
  have hD : va_D (va_A X sz) (W0 ++ ((q0, .inr (1, [.ref q11, .int (nI 0), .ref q12, .null])) :: ((q11, .inl (G.2.2.2.1, 20, .inr (.inr (.inr (.inr (fun _ => none)))))) :: ((q12, .inl (G.2.1, 20, .inl (fun _ => 0))) :: ((q13, .inl (G.2.2.2.2, 13, .inr (.inr (.inr (.inr (fun i => if i < 13 then some (r13 i) else none)))))) :: ((List.range 13).map (fun i => (r13 i, .inl (G.2.1, 25, .inl (fun _ => 0)))) ++ ([]))))))) := by simpa only [List.append_assoc, List.cons_append, List.nil_append, List.append_nil] using hD
  refine zcPF S hK hP hD hS (C := RX1) (T9 := TX1) (N := 4) rfl inlX1 tyX1 tyX1_ok nmX1 3 (by decide) (List.mem_of_getElem? (i := 83) (by decide +kernel)) rfl hin rfl (ty := .array (.array .int)) (by decide +kernel) rfl rfl (Nat.le_of_ble_eq_true rfl) dX1_init_35 (fun H locs hP hD hS => ?_)
  have hP : va_P G.1 vwCl (W0 ++ ((q0, .inr (1, [.ref q11, .int (nI 0), .ref q12, .ref q13])) :: ((q11, .inl (G.2.2.2.1, 20, .inr (.inr (.inr (.inr (fun _ => none)))))) :: ((q12, .inl (G.2.1, 20, .inl (fun _ => 0))) :: ((q13, .inl (G.2.2.2.2, 13, .inr (.inr (.inr (.inr (fun i => if i < 13 then some (r13 i) else none)))))) :: ((List.range 13).map (fun i => (r13 i, .inl (G.2.1, 25, .inl (fun _ => 0)))) ++ ([]))))))) H := hP
  have hD : va_D (va_A X sz) (W0 ++ ((q0, .inr (1, [.ref q11, .int (nI 0), .ref q12, .ref q13])) :: ((q11, .inl (G.2.2.2.1, 20, .inr (.inr (.inr (.inr (fun _ => none)))))) :: ((q12, .inl (G.2.1, 20, .inl (fun _ => 0))) :: ((q13, .inl (G.2.2.2.2, 13, .inr (.inr (.inr (.inr (fun i => if i < 13 then some (r13 i) else none)))))) :: ((List.range 13).map (fun i => (r13 i, .inl (G.2.1, 25, .inl (fun _ => 0)))) ++ ([]))))))) := hD
  refine lv_iconst (v := nI 0) hxx hbb dX1_init_38 (by decide) ?_
  refine lv_istore_n (lv' := [(1, .int (nI 0)), (0, .ref q0)]) hxx hbb dX1_init_39 rfl hl (by decide) rfl (fun ls hl => ?_)
  have L : ∀ (N i : Nat) (v w : Nat → Nat) (H : Heap) (locs : List Loc) (ls : Array Slot), 20 - i < N → i ≤ 20 → va_P G.1 vwCl (zX1 G W0 q0 q11 q12 q13 r13 i v w) H → va_D (va_A X sz) (zX1 G W0 q0 q11 q12 q13 r13 i v w) → va_S (va_A X sz) s.heap H locs → lv_has ls 2 [(0, .ref q0), (1, .int (nI i))] → W p l e { frames := 2, cells := 56, slots := 898, locals := 40 } s m args below meth c H locs (16 + 2 * i) (378 + 26 * i) Q (F0 m 40 ls []) := by
    intro N
    induction N with
    | zero => intro i v w H locs ls h; exact absurd h (Nat.not_lt_zero _)
    | succ N ih =>
      intro i v w H locs ls hN hi hP hD hS hl
      refine lv_iload_n hxx hbb dX1_init_40 rfl (lv_at hl 1 rfl) ?_
      refine lv_bipush (v := nI 20) hxx hbb dX1_init_41 (by decide) ?_
      refine zcmp_ge (tgt := 65) S (by omega) (by omega) dX1_init_43 (by decide) (fun hc => ?_) (fun hc => ?_)
      · have e : i = 20 := by omega
        subst e
        exact hret (fun a i => match a with | 0 => [q11, q12, q13].getD i 0 | 1 => r13 i | 2 => v i | _ => w i) _ _ _ _ _ _ dX1_init_65 hP hD hS (by decide) (by decide)
      · refine lv_aload_n hxx hbb dX1_init_46 rfl (lv_at hl 0 rfl) ?_
        refine va_get (C := RX1) (T := TX1) (N := 4) (ci := 1) S.1 S.2.1 S.2.2.2.2 inlX1 S.2.2.2.1 hK.1 hP W0.length (by unfold zX1; exact zc_mid (q0 := q0)) rfl 0 (by decide) (S.2.2.2.2 (.fieldLink RX1 11 (TX1 0).1 (TX1 0).2.1 (TX1 0).2.2.1) (List.mem_of_getElem? (i := 79) (by decide +kernel))) (fun _ h => h) rfl dX1_init_47 ?_
        refine lv_iload_n hxx hbb dX1_init_50 rfl (lv_at hl 1 rfl) ?_
        refine va_new (ci := 3) (fs := [.null, .int 0]) (C := RX3) (T := TX3) (N := 2) S.1 S.2.1 S.2.2.2.2 inlX3 tyX3 tyX3_ok S.2.2.2.1 (S.2.2.2.2 (.classLink RX1 9 RX3) (List.mem_of_getElem? (i := 78) (by decide +kernel))) (S.2.2.2.2 (.instantiable RX3 2) (List.mem_of_getElem? (i := 24) (by decide +kernel))) (S.2.2.2.2 (.initialized RX3) (List.mem_of_getElem? (i := 25) (by decide +kernel))) hK.1 hP hD hS hA rfl (fun j hj => by rcases (show j = 0 ∨ j = 1 by omega) with rfl | rfl <;> rfl) (by show 16 + 2 * i + 1 ≤ 56; omega) (by show 378 + 26 * i + 2 ≤ 898; omega) dX1_init_51 (fun q H hP hD hS => ?_)
        refine lv_dup hxx hbb dX1_init_54 rfl ?_
        refine ZC.callN S hK hP hD hS hA (fun sz9 => kX3_init l G (zX1 G W0 q0 q11 q12 q13 r13 i v w) q sz9) zcnX1_30 (fun w hw => by simp only [List.mem_cons, List.not_mem_nil, or_false] at hw; rcases hw with rfl | rfl | rfl; exact (List.mem_of_getElem? (i := 60) (by decide +kernel)); exact (List.mem_of_getElem? (i := 25) (by decide +kernel)); exact (List.mem_of_getElem? (i := 61) (by decide +kernel))) ⟨by decide, by decide, by decide +kernel⟩ rfl ⟨Nat.le_of_ble_eq_true rfl, Nat.le_of_ble_eq_true rfl⟩ (Nat.le_of_ble_eq_true rfl) hl.1 dX1_init_55 ⟨(by show 16 + 2 * i + 1 + 1 ≤ 56; omega), (by show 378 + 26 * i + 2 + 24 ≤ 898; omega)⟩ (fun u H locs hP hD hS => ?_)
        obtain ⟨qk, hqk⟩ := List.mem_iff_getElem?.mp (show ((q, .inr (3, [.ref (u 0 0), .int (nI 0)])) : Nat × va_E) ∈ (zX1 G W0 q0 q11 q12 q13 r13 i v w) ++ [(q, .inr (3, [.ref (u 0 0), .int (nI 0)])), (u 0 0, .inl (G.2.2.1, 24, .inl (fun _ => 0)))] from List.mem_append_right _ List.mem_cons_self)
        refine va_astq S.1 S.2.1 hK.1 hP hD hS (W0.length + 1) 2 qk 3 (cA := G.2.2.2.1) (r := (RX3, TX3, 2)) (n := 20) (f := fun j => if j < i then some (v j) else none) (by unfold zX1; simp only [List.append_assoc, List.cons_append]; exact zc_mid1) rfl hqk rfl (vp_in_nI (by omega) (by decide)) dX1_init_58 (fun H locs hP hD hS => ?_)
        rw [nI_clamp (by omega), zX1_s] at hP hD
        refine lv_iinc (v := nI (i + 1)) (lv' := [(1, .int (nI (i + 1))), (0, .ref q0)]) hxx hbb dX1_init_59 hl (k := 1) rfl (zinc1 _) (by decide) rfl (fun ls hl => ?_)
        refine lv_goto (tgt := 40) hxx hbb dX1_init_62 (by decide) ?_
        refine W.widen (k := 16 + 2 * (i + 1)) (n := 378 + 26 * (i + 1)) (by omega) (by omega) ?_
        exact ih (i + 1) _ _ _ _ _ (by omega) (by omega) hP hD hS (lv_sub hl [1, 0] rfl)
  refine W.widen (k := 16 + 2 * 0) (n := 378 + 26 * 0) (by decide) (by decide) ?_
  exact L 21 0 (fun _ => 0) (fun _ => 0) _ _ _ (by decide) (by decide) hP hD hS (lv_sub hl [1, 0] rfl)
