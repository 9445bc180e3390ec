section ZCM
variable {p : Program} {l : Launch} {e : Env} {R : Room} {s : State} {m : MethodId} {args : Array Value} {below : List Frame} {meth : Method} {c : Code} {H : Heap} {locs : List Loc} {cells slots : Nat} {Q : State → Prop}
variable {cc : ByteArray} {pc nL : Nat} {ls : Array Slot} {rest : List Value} {G : zG} {ws W0 : va_W} {B0 : Nat → Prop} {H0 : Heap} {own : String}
theorem zc_pl {f : Nat → va_E} {r : Nat → Nat} {e : va_E} {L : List Nat} : va_pl ([] ++ L.map r) (vr_up f (L.map r) e) = L.map (fun i => (r i, e)) := by
  unfold va_pl
  rw [List.nil_append, List.map_map]
  apply List.map_congr_left
  intro a ha
  show (r a, vr_up f (L.map r) e (r a)) = (r a, e)
  rw [vr_up_in (List.mem_map.mpr ⟨a, ha, rfl⟩)]
theorem zcMna (S : CallFix p m c cc nL s args wsL_law own) (hK : zKc G s) (hP : va_P G.1 vwCl ws H) (hD : va_D B0 ws) (hS : va_S B0 H0 H locs) (hA : ∀ q, H0.size ≤ q → B0 q) {N k : Nat} (hN : N ≤ 100) (hk : k ≤ 1000) {index : Nat} (hl : Cond.classLink own index "[[I" ∈ wsL_law) (hcells : cells + (1 + N) ≤ R.cells) (hslots : slots + (N + N * k) ≤ R.slots) (hdg : decode cc pc = .ok (.multianewarray index 2, 4))
    (kk : ∀ (q : Nat) (r : Nat → Nat) (H1 : Heap), va_P G.1 vwCl ((ws ++ [(q, .inl (G.2.2.2.2, N, .inr (.inr (.inr (.inr (fun i => if i < N then some (r i) else none))))))]) ++ (List.range N).map (fun i => (r i, .inl (G.2.1, k, .inl (fun _ => 0))))) H1 → va_D B0 ((ws ++ [(q, .inl (G.2.2.2.2, N, .inr (.inr (.inr (.inr (fun i => if i < N then some (r i) else none))))))]) ++ (List.range N).map (fun i => (r i, .inl (G.2.1, k, .inl (fun _ => 0))))) → va_S B0 H0 H1 locs →
      W p l e R s m args below meth c H1 locs (cells + 1 + N) (slots + N + N * k) Q (F0 m (pc + 4) ls (.ref q :: rest))) : W p l e R s m args below meth c H locs cells slots Q (F0 m pc ls (.int (nI k) :: .int (nI N) :: rest)) := by
  have hP9 : va_P G.1 vwCl (ws ++ va_pl [] (fun _ => .inl (G.2.1, 0, .inl (fun _ => 0)))) H := by unfold va_pl; rw [List.map_nil, List.append_nil]; exact hP
  have hD9 : va_D B0 (ws ++ va_pl [] (fun _ => .inl (G.2.1, 0, .inl (fun _ => 0)))) := by unfold va_pl; rw [List.map_nil, List.append_nil]; exact hD
  have e2 : s.vm.findClass ("[" ++ FieldType.int.toString) = some G.2.1 := (hK.1.2 0 _ rfl).2
  have e3 : s.vm.findClass ("[" ++ (FieldType.array FieldType.int).toString) = some G.2.2.2.2 := (hK.1.2 3 _ rfl).2
  have e4 : "[" ++ (FieldType.array FieldType.int).toString = "[[I" := by decide
  have hkn : N * k ≤ 100 * 1000 := Nat.mul_le_mul hN hk
  refine va_mna (ty := .int) (cy := G.2.1) (n := nI N) (k := nI k) (N' := N) (K' := k) (z := (k, .inl (fun _ => 0))) S.1 S.2.1 S.2.2.2.1 (by rw [e4]; exact S.2.2.2.2 _ hl) hK.2.2.2 (S.2.2.2.2 (.arrayClass .int) (List.mem_of_getElem? (i := 45) (by decide +kernel))) e2 hK.1 hP9 hD9 hS hA (nI_pos (by omega)) (nI_pos (by omega)) (nI_clamp (by omega)) (nI_clamp (by omega)) (by omega) (by show k * 4 ≤ _; omega) (by omega) rfl rfl hcells hslots (fun c9 => ?_) hdg (fun q r cA H1 h1 h2 hK9 hP1 hD1 hS1 => ?_)
  · show ({ cls := c9, slots := Array.replicate k (.int 0), vm := .none } : Cell) = arrV c9 k (fun _ => .int 0)
    rw [arrV_new]
  · have e5 : s.vm.findClass ("[" ++ (FieldType.array FieldType.int).toString) = some cA := (hK9.2 4 _ rfl).2
    have e : cA = G.2.2.2.2 := Option.some.inj (e5.symm.trans e3)
    subst e
    rw [zc_pl] at hP1 hD1
    exact kk q r H1 hP1 hD1 hS1
end ZCM
