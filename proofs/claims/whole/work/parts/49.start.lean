/-! ===== what the tables say at the law's start ===== -/
theorem zN_start {s : State} {a : Array Value} (hts : ∀ w ∈ lw_tbl, w.before a s = true) : zN s := ⟨fun q hq => va_Nw.of rfl (hts _ (zNF_in _ (List.mem_map.mpr ⟨q, hq, rfl⟩))), fun q hq => va_Nw.of rfl (hts _ (zNM_in _ (List.mem_map.mpr ⟨q, hq, rfl⟩)))⟩
theorem zAt_i {s : State} {t : FieldType} {c comp : ClassId} {k : Class} (h : s.vm.classes[c]? = some k) (hk : k.kind = .array comp t) : ArrOfT s c t := fun n z => ⟨(fun q hq => by cases hq), k, h, comp, hk⟩
set_option maxRecDepth 20000 in
theorem z_start {s : State} {a : Array Value} (hts : ∀ w ∈ lw_tbl, w.before a s = true) : ∃ G : zG, zKc G s := by
  obtain ⟨c0, i0, h0⟩ := u_known (C := RX0) (T := TX0) (N := 6) (n := 6) hts inX0 (hts (.instantiable RX0 6) (List.mem_of_getElem? (i := 167) (by decide +kernel)))
  obtain ⟨c1, i1, h1⟩ := u_known (C := RX1) (T := TX1) (N := 4) (n := 4) hts inX1 (hts (.instantiable RX1 4) (List.mem_of_getElem? (i := 194) (by decide +kernel)))
  obtain ⟨c2, i2, h2⟩ := u_known (C := RX2) (T := TX2) (N := 9) (n := 9) hts inX2 (hts (.instantiable RX2 9) (List.mem_of_getElem? (i := 84) (by decide +kernel)))
  obtain ⟨c3, i3, h3⟩ := u_known (C := RX3) (T := TX3) (N := 2) (n := 2) hts inX3 (hts (.instantiable RX3 2) (List.mem_of_getElem? (i := 151) (by decide +kernel)))
  obtain ⟨c4, i4, h4⟩ := u_known (C := RX4) (T := TX4) (N := 5) (n := 5) hts inX4 (hts (.instantiable RX4 5) (List.mem_of_getElem? (i := 90) (by decide +kernel)))
  obtain ⟨c5, i5, h5⟩ := u_known (C := RX5) (T := TX5) (N := 10) (n := 10) hts inX5 (hts (.instantiable RX5 10) (List.mem_of_getElem? (i := 76) (by decide +kernel)))
  obtain ⟨c6, i6, h6⟩ := u_known (C := RX6) (T := TX6) (N := 29) (n := 29) hts inX6 (hts (.instantiable RX6 29) (List.mem_of_getElem? (i := 547) (by decide +kernel)))
  obtain ⟨cI, kI, pI, a1, a2, a3⟩ := Cond.arrayClass_spec (hts (.arrayClass .int) (List.mem_of_getElem? (i := 118) (by decide +kernel)))
  obtain ⟨cC, kC, pC, b1, b2, b3⟩ := Cond.arrayClass_spec (hts (.arrayClass .char) (List.mem_of_getElem? (i := 117) (by decide +kernel)))
  have hO := hts (.arrayOver (.object "FuzzyFinder$Letters")) (List.mem_of_getElem? (i := 200) (by decide +kernel))
  have hM := hts (.arrayOver (.array .int)) (List.mem_of_getElem? (i := 173) (by decide +kernel))
  obtain ⟨pO, cO, kO, o1, o2, o3, o4, o5⟩ := Cond.arrayOver_spec hO
  obtain ⟨pM, cM, kM, m1, m2, m3, m4, m5⟩ := arrayOverA_spec hM
  refine ⟨((fun k => match k with | 0 => c0 | 1 => c1 | 2 => c2 | 3 => c3 | 4 => c4 | 5 => c5 | _ => c6, fun k => match k with | 0 => i0 | 1 => i1 | 2 => i2 | 3 => i3 | 4 => i4 | 5 => i5 | _ => i6), cI, cC, cO, cM), ⟨fun k q hq => ?_, fun k q hq => ?_⟩, zN_start hts, hO, hM⟩
  · match k, hq with
    | 0, hq => cases hq; exact h0
    | 1, hq => cases hq; exact h1
    | 2, hq => cases hq; exact h2
    | 3, hq => cases hq; exact h3
    | 4, hq => cases hq; exact h4
    | 5, hq => cases hq; exact h5
    | 6, hq => cases hq; exact h6
    | k + 7, hq => exact absurd hq (by simp [vwCl])
  · match k, hq with
    | 0, hq => cases hq; exact ⟨zAt_i a2 a3, a1⟩
    | 1, hq => cases hq; exact ⟨zAt_i b2 b3, b1⟩
    | 2, hq => cases hq; exact ⟨zAt_i o3 o4, kO, pO, o3, o4, o1, o5⟩
    | 3, hq => cases hq; exact ⟨zAt_i m3 m4, m5⟩
    | k + 4, hq => exact absurd hq (by simp [zTy])
