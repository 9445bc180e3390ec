/-! ===== the two objects are new ===== -/
def zT0 : nY := fun a _ => if a = 4 ∨ a = 5 ∨ a = 6 then 1 else 0
theorem zY0_row {p : Nat} (h0 : p ≠ 0) (h1 : p ≠ 18) (h2 : p ≠ 102) (j : Nat) : zY0 p j = nI 0 := by
  unfold zY0
  rw [if_neg h0, if_neg h1, if_neg h2]
theorem zT0_o {a e : Nat} (h : a = 4 ∨ a = 5 ∨ a = 6) : oI (zT0 a e) = nI 0 := by
  unfold zT0 oI
  rw [if_pos h, pk_sub (Nat.le_refl 1)]
theorem XR_0 : XR zY0 := by
  refine ⟨zT0, ⟨⟨(by decide +kernel : zY0 2 1 = nI (cs (zT0 0 0))), (by decide +kernel : zY0 2 2 = nI (zT0 0 1)), (by decide +kernel : zY0 2 6 = nI (zT0 0 3)), (by decide +kernel : zY0 2 7 = nI (zT0 0 4)), (by decide +kernel : zY0 2 8 = nI (zT0 0 5))⟩, fun e he => ⟨?_, ?_, ?_⟩, ⟨(by decide +kernel : zY0 3 4 = nI (zT0 0 2)), fun n hn => absurd hn (Nat.not_lt_zero _)⟩⟩, ⟨by decide, by decide, by decide, by decide, by decide, fun e => ⟨?_, ?_, ?_⟩⟩⟩
  · rw [zT0_o (by omega)]; exact zY0_row (by decide) (by decide) (by decide) e
  · rw [zT0_o (by omega)]; exact zY0_row (by decide) (by decide) (by decide) e
  · rw [zT0_o (by omega)]; exact zY0_row (by decide) (by decide) (by decide) e
  · show (if _ then 1 else 0) ≤ 200; split <;> omega
  · show (if _ then 1 else 0) ≤ 200; split <;> omega
  · show (if _ then 1 else 0) ≤ 200; split <;> omega
theorem wf_0 : wfN 0 (fun _ => 0) (fun _ => 0) (fun _ => 0) := ⟨Nat.zero_le _, fun q hq => absurd hq (Nat.not_lt_zero _)⟩
theorem IX_0 : IX zY0 0 (fun _ => 0) 0 (fun _ => 0) (fun _ => 0) (fun _ => 0) (fun _ => 0) 0 1 1 1 0 0 (fun _ => 0) (fun _ _ => 0) (-1) (-1) := ⟨TY.nil (by decide +kernel : zY0 0 1 = nI 0), XR_0, ⟨(fun _ => 0), ⟨wf_0, fun q hq => absurd hq (Nat.not_lt_zero _), by omega, by omega, by omega, by omega, fun q hq => absurd hq (Nat.not_lt_zero _), ⟨(by decide +kernel : zY0 11 4 = nI 0), fun q hq => absurd hq (Nat.not_lt_zero _)⟩, (by decide +kernel : zY0 16 1 = nI 0), fun q hq => absurd hq (Nat.not_lt_zero _), (by decide +kernel : zY0 18 3 = nI 1), (by decide +kernel : zY0 18 4 = nI 1), (by decide +kernel : zY0 18 5 = nI 1)⟩⟩, ⟨0, Nat.zero_le _, XT.nil (by decide +kernel : zY0 18 2 = nI 0)⟩, ⟨by omega, (by decide +kernel : zY0 0 7 = nI 0)⟩, ⟨(by decide +kernel : zY0 0 8 = -1), (by decide +kernel : zY0 0 9 = -1)⟩, ⟨by omega, (by decide +kernel : zY0 45 1 = nI 0), fun q hq => absurd hq (Nat.not_lt_zero _), ⟨by omega, (by decide +kernel : zY0 16 1 = nI 0), fun q hq => absurd hq (Nat.not_lt_zero _), fun q hq => absurd hq (Nat.not_lt_zero _)⟩⟩⟩
theorem IM_0 : IM zY0 0 (fun _ => 0) 0 (fun _ => 0) (fun _ => 0) (fun _ => 0) (fun _ => 0) 0 1 1 1 0 0 (fun _ => 0) (fun _ _ => 0) (-1) (-1) := ⟨TY.nil (by decide +kernel : zY0 102 0 = nI 0), ⟨wf_0, by omega, by omega, by omega, by omega, fun q hq => absurd hq (Nat.not_lt_zero _), (by decide +kernel : zY0 102 2 = nI 0), (by decide +kernel : zY0 102 19 = nI 0), (by decide +kernel : zY0 102 15 = nI 1), (by decide +kernel : zY0 102 16 = nI 1), (by decide +kernel : zY0 102 17 = nI 1), fun q hq => absurd hq (Nat.not_lt_zero _), fun q hq => absurd hq (Nat.not_lt_zero _)⟩, Or.inl (by decide +kernel : zY0 102 21 = nI 0), ⟨by omega, (by decide +kernel : zY0 102 18 = nI 0)⟩, ⟨(by decide +kernel : zY0 102 23 = -1), (by decide +kernel : zY0 102 24 = -1)⟩, ⟨by omega, by omega, fun q hq => absurd hq (Nat.not_lt_zero _), fun q hq => absurd hq (Nat.not_lt_zero _), (by decide +kernel : zY0 102 25 = nI 0), (by decide +kernel : zY0 102 19 = nI 0), fun q hq => absurd hq (Nat.not_lt_zero _), fun q hq => absurd hq (Nat.not_lt_zero _)⟩⟩
theorem LV_0 : LV zY0 := LV.mk IX_0 IM_0
