def zX5 (G : zG) (q0 : Nat) (u : Nat → Nat → Nat) : va_W := ([] : va_W) ++ ((q0, .inr (5, [.ref (u 0 0), .int (nI 0), .ref (u 0 1), .ref (u 0 10), .ref (u 0 15), .ref (u 0 17), .ref (u 0 20), .int (nI 0), .int ((-1)), .int ((-1))])) :: (((u 0 0), .inl (G.2.2.1, 40, .inl (fun _ => 0))) :: (((u 0 1), .inr (2, [.ref (u 0 2), .int (nI 0), .int (nI 0), .ref (u 0 7), .ref (u 0 8), .ref (u 0 9), .int (nI 0), .int (nI 0), .int (nI 0)])) :: (((u 0 2), .inr (4, [.ref (u 0 3), .ref (u 0 4), .ref (u 0 5), .ref (u 0 6), .int (nI 0)])) :: (((u 0 3), .inl (G.2.1, 24, .inl (fun _ => 0))) :: (((u 0 4), .inl (G.2.1, 24, .inl (fun _ => 0))) :: (((u 0 5), .inl (G.2.1, 24, .inl (fun _ => 0))) :: (((u 0 6), .inl (G.2.1, 24, .inl (fun _ => 0))) :: (((u 0 7), .inl (G.2.1, 7, .inl (fun _ => 0))) :: (((u 0 8), .inl (G.2.1, 7, .inl (fun _ => 0))) :: (((u 0 9), .inl (G.2.1, 7, .inl (fun _ => 0))) :: (((u 0 10), .inr (4, [.ref (u 0 11), .ref (u 0 12), .ref (u 0 13), .ref (u 0 14), .int (nI 0)])) :: (((u 0 11), .inl (G.2.1, 24, .inl (fun _ => 0))) :: (((u 0 12), .inl (G.2.1, 24, .inl (fun _ => 0))) :: (((u 0 13), .inl (G.2.1, 24, .inl (fun _ => 0))) :: (((u 0 14), .inl (G.2.1, 24, .inl (fun _ => 0))) :: (((u 0 15), .inr (3, [.ref (u 0 16), .int (nI 0)])) :: (((u 0 16), .inl (G.2.2.1, 24, .inl (fun _ => 0))) :: (((u 0 17), .inr (0, [.ref (u 0 18), .ref (u 0 19), .int (nI 0), .int (nI 1), .int (nI 1), .int (nI 1)])) :: (((u 0 18), .inl (G.2.2.2.2, 24, .inr (.inr (.inr (.inr (fun i => if i < 24 then some (u 1 i) else none)))))) :: ((List.range 24).map (fun i => (u 1 i, .inl (G.2.1, 325, .inl (fun _ => 0)))) ++ (((u 0 19), .inl (G.2.1, 25, .inl (fun _ => 0))) :: (((u 0 20), .inr (1, [.ref (u 0 21), .int (nI 0), .ref (u 0 22), .ref (u 0 23)])) :: (((u 0 21), .inl (G.2.2.2.1, 20, .inr (.inr (.inr (.inr (fun j => if j < 20 then some (u 3 j) else none)))))) :: (((u 0 22), .inl (G.2.1, 20, .inl (fun _ => 0))) :: (((u 0 23), .inl (G.2.2.2.2, 13, .inr (.inr (.inr (.inr (fun i => if i < 13 then some (u 2 i) else none)))))) :: ((List.range 13).map (fun i => (u 2 i, .inl (G.2.1, 25, .inl (fun _ => 0)))) ++ (zLW G 20 (u 3) (u 4) ++ ([])))))))))))))))))))))))))))))
def zXX (G : zG) (q0 q6 : Nat) (u v : Nat → Nat → Nat) : va_W := zX5 G q0 u ++ [(q6, .inr (6, [.int 0, .ref (v 0 0), .int 0, .ref (v 0 1), .ref (v 0 2), .ref (v 0 3), .int 0, .ref (v 0 4), .ref (v 0 5), .ref (v 0 6), .int 0, .ref (v 0 7), .int 0, .ref (v 0 8), .int 0, .int (nI 1), .int (nI 1), .int (nI 1), .int 0, .int 0, .ref (v 0 9), .int 0, .ref (v 0 10), .int ((-1)), .int ((-1)), .int 0, .ref (v 0 11), .ref (v 0 12), .ref (v 0 13)])), ((v 0 0), .inl (G.2.1, 40, .inl (fun _ => 0))), ((v 0 1), .inl (G.2.1, 24, .inl (fun _ => 0))), ((v 0 2), .inl (G.2.1, 24, .inl (fun _ => 0))), ((v 0 3), .inl (G.2.1, 24, .inl (fun _ => 0))), ((v 0 4), .inl (G.2.1, 80, .inl (fun _ => 0))), ((v 0 5), .inl (G.2.1, 80, .inl (fun _ => 0))), ((v 0 6), .inl (G.2.1, 80, .inl (fun _ => 0))), ((v 0 7), .inl (G.2.1, 80, .inl (fun _ => 0))), ((v 0 8), .inl (G.2.1, 80, .inl (fun _ => 0))), ((v 0 9), .inl (G.2.1, 24, .inl (fun _ => 0))), ((v 0 10), .inl (G.2.1, 15000, .inl (fun _ => 0))), ((v 0 11), .inl (G.2.1, 20, .inl (fun _ => 0))), ((v 0 12), .inl (G.2.1, 240, .inl (fun _ => 0))), ((v 0 13), .inl (G.2.1, 325, .inl (fun _ => 0)))]
def zY0 : zY := fun p j => if p = 0 then (if j = 8 then -1 else if j = 9 then -1 else nI 0) else if p = 18 then (if j = 3 then nI 1 else if j = 4 then nI 1 else if j = 5 then nI 1 else nI 0) else if p = 102 then (if j = 15 then nI 1 else if j = 16 then nI 1 else if j = 17 then nI 1 else if j = 23 then -1 else if j = 24 then -1 else nI 0) else nI 0
def zA0 (q0 q6 : Nat) (u v : Nat → Nat → Nat) : Nat → Nat := fun p => if p = 0 then q0 else if p < 20 then u 0 (p - 1) else if p < 44 then u 1 (p - 20) else if p < 49 then u 0 (p - 25) else if p < 62 then u 2 (p - 49) else if p < 102 then (if p % 2 = 0 then u 3 ((p - 62) / 2) else u 4 ((p - 63) / 2)) else if p = 102 then q6 else v 0 (p - 103)
theorem zA0_19 {q0 q6 : Nat} {u v : Nat → Nat → Nat} : (fun i => if i < 24 then some (zA0 q0 q6 u v (20 + i)) else none) = (fun i => if i < 24 then some (u 1 i) else none) := by
  funext i
  by_cases h : i < 24
  · rw [if_pos h, if_pos h]
    unfold zA0
    rw [if_neg (by omega), if_neg (by omega), if_pos (by omega), Nat.add_sub_cancel_left]
  · rw [if_neg h, if_neg h]
theorem zA0_46 {q0 q6 : Nat} {u v : Nat → Nat → Nat} : (fun i => if i < 20 then some (zA0 q0 q6 u v (62 + 2 * i)) else none) = (fun i => if i < 20 then some (u 3 i) else none) := by
  funext i
  by_cases h : i < 20
  · rw [if_pos h, if_pos h]
    unfold zA0
    rw [if_neg (by omega), if_neg (by omega), if_neg (by omega), if_neg (by omega), if_neg (by omega), if_pos (by omega), if_pos (by omega), show (62 + 2 * i - 62) / 2 = i by omega]
  · rw [if_neg h, if_neg h]
theorem zA0_48 {q0 q6 : Nat} {u v : Nat → Nat → Nat} : (fun i => if i < 13 then some (zA0 q0 q6 u v (49 + i)) else none) = (fun i => if i < 13 then some (u 2 i) else none) := by
  funext i
  by_cases h : i < 13
  · rw [if_pos h, if_pos h]
    unfold zA0
    rw [if_neg (by omega), if_neg (by omega), if_neg (by omega), if_neg (by omega), if_pos (by omega), Nat.add_sub_cancel_left]
  · rw [if_neg h, if_neg h]
theorem zlt_0 {P : Nat → Prop} : ∀ p, p < 0 → P p := fun p h => absurd h (Nat.not_lt_zero _)
theorem zlt_s {P : Nat → Prop} {n : Nat} (h : ∀ p, p < n → P p) (hn : P n) : ∀ p, p < n + 1 → P p := fun p hp => (Nat.lt_succ_iff_lt_or_eq.mp hp).elim (h p) (fun e => e ▸ hn)
def zAt0 (G : zG) (q0 q6 : Nat) (u v : Nat → Nat → Nat) (p : Nat) : Prop := (zXX G q0 q6 u v)[p]? = some (zA0 q0 q6 u v p, zc G (zA0 q0 q6 u v) zY0 p)
set_option maxRecDepth 20000 in
set_option maxHeartbeats 1000000 in
theorem zat_0 {G : zG} {q0 q6 : Nat} {u v : Nat → Nat → Nat} : zAt0 G q0 q6 u v 0 := rfl
set_option maxRecDepth 20000 in
set_option maxHeartbeats 1000000 in
theorem zat_1 {G : zG} {q0 q6 : Nat} {u v : Nat → Nat → Nat} : zAt0 G q0 q6 u v 1 := rfl
set_option maxRecDepth 20000 in
set_option maxHeartbeats 1000000 in
theorem zat_2 {G : zG} {q0 q6 : Nat} {u v : Nat → Nat → Nat} : zAt0 G q0 q6 u v 2 := rfl
set_option maxRecDepth 20000 in
set_option maxHeartbeats 1000000 in
theorem zat_3 {G : zG} {q0 q6 : Nat} {u v : Nat → Nat → Nat} : zAt0 G q0 q6 u v 3 := rfl
set_option maxRecDepth 20000 in
set_option maxHeartbeats 1000000 in
theorem zat_4 {G : zG} {q0 q6 : Nat} {u v : Nat → Nat → Nat} : zAt0 G q0 q6 u v 4 := rfl
set_option maxRecDepth 20000 in
set_option maxHeartbeats 1000000 in
theorem zat_5 {G : zG} {q0 q6 : Nat} {u v : Nat → Nat → Nat} : zAt0 G q0 q6 u v 5 := rfl
set_option maxRecDepth 20000 in
set_option maxHeartbeats 1000000 in
theorem zat_6 {G : zG} {q0 q6 : Nat} {u v : Nat → Nat → Nat} : zAt0 G q0 q6 u v 6 := rfl
set_option maxRecDepth 20000 in
set_option maxHeartbeats 1000000 in
theorem zat_7 {G : zG} {q0 q6 : Nat} {u v : Nat → Nat → Nat} : zAt0 G q0 q6 u v 7 := rfl
set_option maxRecDepth 20000 in
set_option maxHeartbeats 1000000 in
theorem zat_8 {G : zG} {q0 q6 : Nat} {u v : Nat → Nat → Nat} : zAt0 G q0 q6 u v 8 := rfl
set_option maxRecDepth 20000 in
set_option maxHeartbeats 1000000 in
theorem zat_9 {G : zG} {q0 q6 : Nat} {u v : Nat → Nat → Nat} : zAt0 G q0 q6 u v 9 := rfl
set_option maxRecDepth 20000 in
set_option maxHeartbeats 1000000 in
theorem zat_10 {G : zG} {q0 q6 : Nat} {u v : Nat → Nat → Nat} : zAt0 G q0 q6 u v 10 := rfl
set_option maxRecDepth 20000 in
set_option maxHeartbeats 1000000 in
theorem zat_11 {G : zG} {q0 q6 : Nat} {u v : Nat → Nat → Nat} : zAt0 G q0 q6 u v 11 := rfl
set_option maxRecDepth 20000 in
set_option maxHeartbeats 1000000 in
theorem zat_12 {G : zG} {q0 q6 : Nat} {u v : Nat → Nat → Nat} : zAt0 G q0 q6 u v 12 := rfl
set_option maxRecDepth 20000 in
set_option maxHeartbeats 1000000 in
theorem zat_13 {G : zG} {q0 q6 : Nat} {u v : Nat → Nat → Nat} : zAt0 G q0 q6 u v 13 := rfl
set_option maxRecDepth 20000 in
set_option maxHeartbeats 1000000 in
theorem zat_14 {G : zG} {q0 q6 : Nat} {u v : Nat → Nat → Nat} : zAt0 G q0 q6 u v 14 := rfl
set_option maxRecDepth 20000 in
set_option maxHeartbeats 1000000 in
theorem zat_15 {G : zG} {q0 q6 : Nat} {u v : Nat → Nat → Nat} : zAt0 G q0 q6 u v 15 := rfl
set_option maxRecDepth 20000 in
set_option maxHeartbeats 1000000 in
theorem zat_16 {G : zG} {q0 q6 : Nat} {u v : Nat → Nat → Nat} : zAt0 G q0 q6 u v 16 := rfl
set_option maxRecDepth 20000 in
set_option maxHeartbeats 1000000 in
theorem zat_17 {G : zG} {q0 q6 : Nat} {u v : Nat → Nat → Nat} : zAt0 G q0 q6 u v 17 := rfl
set_option maxRecDepth 20000 in
set_option maxHeartbeats 1000000 in
theorem zat_18 {G : zG} {q0 q6 : Nat} {u v : Nat → Nat → Nat} : zAt0 G q0 q6 u v 18 := rfl
set_option maxRecDepth 20000 in
set_option maxHeartbeats 1000000 in
theorem zat_19 {G : zG} {q0 q6 : Nat} {u v : Nat → Nat → Nat} : zAt0 G q0 q6 u v 19 := by
  show (zXX G q0 q6 u v)[19]? = some (zA0 q0 q6 u v 19, .inl (G.2.2.2.2, 24, .inr (.inr (.inr (.inr (fun i => if i < 24 then some (zA0 q0 q6 u v (20 + i)) else none))))))
  rw [zA0_19]
  rfl
set_option maxRecDepth 20000 in
set_option maxHeartbeats 1000000 in
theorem zat_20 {G : zG} {q0 q6 : Nat} {u v : Nat → Nat → Nat} : zAt0 G q0 q6 u v 20 := rfl
set_option maxRecDepth 20000 in
set_option maxHeartbeats 1000000 in
theorem zat_21 {G : zG} {q0 q6 : Nat} {u v : Nat → Nat → Nat} : zAt0 G q0 q6 u v 21 := rfl
set_option maxRecDepth 20000 in
set_option maxHeartbeats 1000000 in
theorem zat_22 {G : zG} {q0 q6 : Nat} {u v : Nat → Nat → Nat} : zAt0 G q0 q6 u v 22 := rfl
set_option maxRecDepth 20000 in
set_option maxHeartbeats 1000000 in
theorem zat_23 {G : zG} {q0 q6 : Nat} {u v : Nat → Nat → Nat} : zAt0 G q0 q6 u v 23 := rfl
set_option maxRecDepth 20000 in
set_option maxHeartbeats 1000000 in
theorem zat_24 {G : zG} {q0 q6 : Nat} {u v : Nat → Nat → Nat} : zAt0 G q0 q6 u v 24 := rfl
set_option maxRecDepth 20000 in
set_option maxHeartbeats 1000000 in
theorem zat_25 {G : zG} {q0 q6 : Nat} {u v : Nat → Nat → Nat} : zAt0 G q0 q6 u v 25 := rfl
set_option maxRecDepth 20000 in
set_option maxHeartbeats 1000000 in
theorem zat_26 {G : zG} {q0 q6 : Nat} {u v : Nat → Nat → Nat} : zAt0 G q0 q6 u v 26 := rfl
set_option maxRecDepth 20000 in
set_option maxHeartbeats 1000000 in
theorem zat_27 {G : zG} {q0 q6 : Nat} {u v : Nat → Nat → Nat} : zAt0 G q0 q6 u v 27 := rfl
set_option maxRecDepth 20000 in
set_option maxHeartbeats 1000000 in
theorem zat_28 {G : zG} {q0 q6 : Nat} {u v : Nat → Nat → Nat} : zAt0 G q0 q6 u v 28 := rfl
set_option maxRecDepth 20000 in
set_option maxHeartbeats 1000000 in
theorem zat_29 {G : zG} {q0 q6 : Nat} {u v : Nat → Nat → Nat} : zAt0 G q0 q6 u v 29 := rfl
set_option maxRecDepth 20000 in
set_option maxHeartbeats 1000000 in
theorem zat_30 {G : zG} {q0 q6 : Nat} {u v : Nat → Nat → Nat} : zAt0 G q0 q6 u v 30 := rfl
set_option maxRecDepth 20000 in
set_option maxHeartbeats 1000000 in
theorem zat_31 {G : zG} {q0 q6 : Nat} {u v : Nat → Nat → Nat} : zAt0 G q0 q6 u v 31 := rfl
set_option maxRecDepth 20000 in
set_option maxHeartbeats 1000000 in
theorem zat_32 {G : zG} {q0 q6 : Nat} {u v : Nat → Nat → Nat} : zAt0 G q0 q6 u v 32 := rfl
set_option maxRecDepth 20000 in
set_option maxHeartbeats 1000000 in
theorem zat_33 {G : zG} {q0 q6 : Nat} {u v : Nat → Nat → Nat} : zAt0 G q0 q6 u v 33 := rfl
set_option maxRecDepth 20000 in
set_option maxHeartbeats 1000000 in
theorem zat_34 {G : zG} {q0 q6 : Nat} {u v : Nat → Nat → Nat} : zAt0 G q0 q6 u v 34 := rfl
set_option maxRecDepth 20000 in
set_option maxHeartbeats 1000000 in
theorem zat_35 {G : zG} {q0 q6 : Nat} {u v : Nat → Nat → Nat} : zAt0 G q0 q6 u v 35 := rfl
set_option maxRecDepth 20000 in
set_option maxHeartbeats 1000000 in
theorem zat_36 {G : zG} {q0 q6 : Nat} {u v : Nat → Nat → Nat} : zAt0 G q0 q6 u v 36 := rfl
set_option maxRecDepth 20000 in
set_option maxHeartbeats 1000000 in
theorem zat_37 {G : zG} {q0 q6 : Nat} {u v : Nat → Nat → Nat} : zAt0 G q0 q6 u v 37 := rfl
set_option maxRecDepth 20000 in
set_option maxHeartbeats 1000000 in
theorem zat_38 {G : zG} {q0 q6 : Nat} {u v : Nat → Nat → Nat} : zAt0 G q0 q6 u v 38 := rfl
set_option maxRecDepth 20000 in
set_option maxHeartbeats 1000000 in
theorem zat_39 {G : zG} {q0 q6 : Nat} {u v : Nat → Nat → Nat} : zAt0 G q0 q6 u v 39 := rfl
set_option maxRecDepth 20000 in
set_option maxHeartbeats 1000000 in
theorem zat_40 {G : zG} {q0 q6 : Nat} {u v : Nat → Nat → Nat} : zAt0 G q0 q6 u v 40 := rfl
set_option maxRecDepth 20000 in
set_option maxHeartbeats 1000000 in
theorem zat_41 {G : zG} {q0 q6 : Nat} {u v : Nat → Nat → Nat} : zAt0 G q0 q6 u v 41 := rfl
set_option maxRecDepth 20000 in
set_option maxHeartbeats 1000000 in
theorem zat_42 {G : zG} {q0 q6 : Nat} {u v : Nat → Nat → Nat} : zAt0 G q0 q6 u v 42 := rfl
set_option maxRecDepth 20000 in
set_option maxHeartbeats 1000000 in
theorem zat_43 {G : zG} {q0 q6 : Nat} {u v : Nat → Nat → Nat} : zAt0 G q0 q6 u v 43 := rfl
set_option maxRecDepth 20000 in
set_option maxHeartbeats 1000000 in
theorem zat_44 {G : zG} {q0 q6 : Nat} {u v : Nat → Nat → Nat} : zAt0 G q0 q6 u v 44 := rfl
set_option maxRecDepth 20000 in
set_option maxHeartbeats 1000000 in
theorem zat_45 {G : zG} {q0 q6 : Nat} {u v : Nat → Nat → Nat} : zAt0 G q0 q6 u v 45 := rfl
set_option maxRecDepth 20000 in
set_option maxHeartbeats 1000000 in
theorem zat_46 {G : zG} {q0 q6 : Nat} {u v : Nat → Nat → Nat} : zAt0 G q0 q6 u v 46 := by
  show (zXX G q0 q6 u v)[46]? = some (zA0 q0 q6 u v 46, .inl (G.2.2.2.1, 20, .inr (.inr (.inr (.inr (fun i => if i < 20 then some (zA0 q0 q6 u v (62 + 2 * i)) else none))))))
  rw [zA0_46]
  rfl
set_option maxRecDepth 20000 in
set_option maxHeartbeats 1000000 in
theorem zat_47 {G : zG} {q0 q6 : Nat} {u v : Nat → Nat → Nat} : zAt0 G q0 q6 u v 47 := rfl
set_option maxRecDepth 20000 in
set_option maxHeartbeats 1000000 in
theorem zat_48 {G : zG} {q0 q6 : Nat} {u v : Nat → Nat → Nat} : zAt0 G q0 q6 u v 48 := by
  show (zXX G q0 q6 u v)[48]? = some (zA0 q0 q6 u v 48, .inl (G.2.2.2.2, 13, .inr (.inr (.inr (.inr (fun i => if i < 13 then some (zA0 q0 q6 u v (49 + i)) else none))))))
  rw [zA0_48]
  rfl
set_option maxRecDepth 20000 in
set_option maxHeartbeats 1000000 in
theorem zat_49 {G : zG} {q0 q6 : Nat} {u v : Nat → Nat → Nat} : zAt0 G q0 q6 u v 49 := rfl
set_option maxRecDepth 20000 in
set_option maxHeartbeats 1000000 in
theorem zat_50 {G : zG} {q0 q6 : Nat} {u v : Nat → Nat → Nat} : zAt0 G q0 q6 u v 50 := rfl
set_option maxRecDepth 20000 in
set_option maxHeartbeats 1000000 in
theorem zat_51 {G : zG} {q0 q6 : Nat} {u v : Nat → Nat → Nat} : zAt0 G q0 q6 u v 51 := rfl
set_option maxRecDepth 20000 in
set_option maxHeartbeats 1000000 in
theorem zat_52 {G : zG} {q0 q6 : Nat} {u v : Nat → Nat → Nat} : zAt0 G q0 q6 u v 52 := rfl
set_option maxRecDepth 20000 in
set_option maxHeartbeats 1000000 in
theorem zat_53 {G : zG} {q0 q6 : Nat} {u v : Nat → Nat → Nat} : zAt0 G q0 q6 u v 53 := rfl
set_option maxRecDepth 20000 in
set_option maxHeartbeats 1000000 in
theorem zat_54 {G : zG} {q0 q6 : Nat} {u v : Nat → Nat → Nat} : zAt0 G q0 q6 u v 54 := rfl
set_option maxRecDepth 20000 in
set_option maxHeartbeats 1000000 in
theorem zat_55 {G : zG} {q0 q6 : Nat} {u v : Nat → Nat → Nat} : zAt0 G q0 q6 u v 55 := rfl
set_option maxRecDepth 20000 in
set_option maxHeartbeats 1000000 in
theorem zat_56 {G : zG} {q0 q6 : Nat} {u v : Nat → Nat → Nat} : zAt0 G q0 q6 u v 56 := rfl
set_option maxRecDepth 20000 in
set_option maxHeartbeats 1000000 in
theorem zat_57 {G : zG} {q0 q6 : Nat} {u v : Nat → Nat → Nat} : zAt0 G q0 q6 u v 57 := rfl
set_option maxRecDepth 20000 in
set_option maxHeartbeats 1000000 in
theorem zat_58 {G : zG} {q0 q6 : Nat} {u v : Nat → Nat → Nat} : zAt0 G q0 q6 u v 58 := rfl
set_option maxRecDepth 20000 in
set_option maxHeartbeats 1000000 in
theorem zat_59 {G : zG} {q0 q6 : Nat} {u v : Nat → Nat → Nat} : zAt0 G q0 q6 u v 59 := rfl
set_option maxRecDepth 20000 in
set_option maxHeartbeats 1000000 in
theorem zat_60 {G : zG} {q0 q6 : Nat} {u v : Nat → Nat → Nat} : zAt0 G q0 q6 u v 60 := rfl
set_option maxRecDepth 20000 in
set_option maxHeartbeats 1000000 in
theorem zat_61 {G : zG} {q0 q6 : Nat} {u v : Nat → Nat → Nat} : zAt0 G q0 q6 u v 61 := rfl
set_option maxRecDepth 20000 in
set_option maxHeartbeats 1000000 in
theorem zat_62 {G : zG} {q0 q6 : Nat} {u v : Nat → Nat → Nat} : zAt0 G q0 q6 u v 62 := rfl
set_option maxRecDepth 20000 in
set_option maxHeartbeats 1000000 in
theorem zat_63 {G : zG} {q0 q6 : Nat} {u v : Nat → Nat → Nat} : zAt0 G q0 q6 u v 63 := rfl
set_option maxRecDepth 20000 in
set_option maxHeartbeats 1000000 in
theorem zat_64 {G : zG} {q0 q6 : Nat} {u v : Nat → Nat → Nat} : zAt0 G q0 q6 u v 64 := rfl
set_option maxRecDepth 20000 in
set_option maxHeartbeats 1000000 in
theorem zat_65 {G : zG} {q0 q6 : Nat} {u v : Nat → Nat → Nat} : zAt0 G q0 q6 u v 65 := rfl
set_option maxRecDepth 20000 in
set_option maxHeartbeats 1000000 in
theorem zat_66 {G : zG} {q0 q6 : Nat} {u v : Nat → Nat → Nat} : zAt0 G q0 q6 u v 66 := rfl
set_option maxRecDepth 20000 in
set_option maxHeartbeats 1000000 in
theorem zat_67 {G : zG} {q0 q6 : Nat} {u v : Nat → Nat → Nat} : zAt0 G q0 q6 u v 67 := rfl
set_option maxRecDepth 20000 in
set_option maxHeartbeats 1000000 in
theorem zat_68 {G : zG} {q0 q6 : Nat} {u v : Nat → Nat → Nat} : zAt0 G q0 q6 u v 68 := rfl
set_option maxRecDepth 20000 in
set_option maxHeartbeats 1000000 in
theorem zat_69 {G : zG} {q0 q6 : Nat} {u v : Nat → Nat → Nat} : zAt0 G q0 q6 u v 69 := rfl
set_option maxRecDepth 20000 in
set_option maxHeartbeats 1000000 in
theorem zat_70 {G : zG} {q0 q6 : Nat} {u v : Nat → Nat → Nat} : zAt0 G q0 q6 u v 70 := rfl
set_option maxRecDepth 20000 in
set_option maxHeartbeats 1000000 in
theorem zat_71 {G : zG} {q0 q6 : Nat} {u v : Nat → Nat → Nat} : zAt0 G q0 q6 u v 71 := rfl
set_option maxRecDepth 20000 in
set_option maxHeartbeats 1000000 in
theorem zat_72 {G : zG} {q0 q6 : Nat} {u v : Nat → Nat → Nat} : zAt0 G q0 q6 u v 72 := rfl
set_option maxRecDepth 20000 in
set_option maxHeartbeats 1000000 in
theorem zat_73 {G : zG} {q0 q6 : Nat} {u v : Nat → Nat → Nat} : zAt0 G q0 q6 u v 73 := rfl
set_option maxRecDepth 20000 in
set_option maxHeartbeats 1000000 in
theorem zat_74 {G : zG} {q0 q6 : Nat} {u v : Nat → Nat → Nat} : zAt0 G q0 q6 u v 74 := rfl
set_option maxRecDepth 20000 in
set_option maxHeartbeats 1000000 in
theorem zat_75 {G : zG} {q0 q6 : Nat} {u v : Nat → Nat → Nat} : zAt0 G q0 q6 u v 75 := rfl
set_option maxRecDepth 20000 in
set_option maxHeartbeats 1000000 in
theorem zat_76 {G : zG} {q0 q6 : Nat} {u v : Nat → Nat → Nat} : zAt0 G q0 q6 u v 76 := rfl
set_option maxRecDepth 20000 in
set_option maxHeartbeats 1000000 in
theorem zat_77 {G : zG} {q0 q6 : Nat} {u v : Nat → Nat → Nat} : zAt0 G q0 q6 u v 77 := rfl
set_option maxRecDepth 20000 in
set_option maxHeartbeats 1000000 in
theorem zat_78 {G : zG} {q0 q6 : Nat} {u v : Nat → Nat → Nat} : zAt0 G q0 q6 u v 78 := rfl
set_option maxRecDepth 20000 in
set_option maxHeartbeats 1000000 in
theorem zat_79 {G : zG} {q0 q6 : Nat} {u v : Nat → Nat → Nat} : zAt0 G q0 q6 u v 79 := rfl
set_option maxRecDepth 20000 in
set_option maxHeartbeats 1000000 in
theorem zat_80 {G : zG} {q0 q6 : Nat} {u v : Nat → Nat → Nat} : zAt0 G q0 q6 u v 80 := rfl
set_option maxRecDepth 20000 in
set_option maxHeartbeats 1000000 in
theorem zat_81 {G : zG} {q0 q6 : Nat} {u v : Nat → Nat → Nat} : zAt0 G q0 q6 u v 81 := rfl
set_option maxRecDepth 20000 in
set_option maxHeartbeats 1000000 in
theorem zat_82 {G : zG} {q0 q6 : Nat} {u v : Nat → Nat → Nat} : zAt0 G q0 q6 u v 82 := rfl
set_option maxRecDepth 20000 in
set_option maxHeartbeats 1000000 in
theorem zat_83 {G : zG} {q0 q6 : Nat} {u v : Nat → Nat → Nat} : zAt0 G q0 q6 u v 83 := rfl
set_option maxRecDepth 20000 in
set_option maxHeartbeats 1000000 in
theorem zat_84 {G : zG} {q0 q6 : Nat} {u v : Nat → Nat → Nat} : zAt0 G q0 q6 u v 84 := rfl
set_option maxRecDepth 20000 in
set_option maxHeartbeats 1000000 in
theorem zat_85 {G : zG} {q0 q6 : Nat} {u v : Nat → Nat → Nat} : zAt0 G q0 q6 u v 85 := rfl
set_option maxRecDepth 20000 in
set_option maxHeartbeats 1000000 in
theorem zat_86 {G : zG} {q0 q6 : Nat} {u v : Nat → Nat → Nat} : zAt0 G q0 q6 u v 86 := rfl
set_option maxRecDepth 20000 in
set_option maxHeartbeats 1000000 in
theorem zat_87 {G : zG} {q0 q6 : Nat} {u v : Nat → Nat → Nat} : zAt0 G q0 q6 u v 87 := rfl
set_option maxRecDepth 20000 in
set_option maxHeartbeats 1000000 in
theorem zat_88 {G : zG} {q0 q6 : Nat} {u v : Nat → Nat → Nat} : zAt0 G q0 q6 u v 88 := rfl
set_option maxRecDepth 20000 in
set_option maxHeartbeats 1000000 in
theorem zat_89 {G : zG} {q0 q6 : Nat} {u v : Nat → Nat → Nat} : zAt0 G q0 q6 u v 89 := rfl
set_option maxRecDepth 20000 in
set_option maxHeartbeats 1000000 in
theorem zat_90 {G : zG} {q0 q6 : Nat} {u v : Nat → Nat → Nat} : zAt0 G q0 q6 u v 90 := rfl
set_option maxRecDepth 20000 in
set_option maxHeartbeats 1000000 in
theorem zat_91 {G : zG} {q0 q6 : Nat} {u v : Nat → Nat → Nat} : zAt0 G q0 q6 u v 91 := rfl
set_option maxRecDepth 20000 in
set_option maxHeartbeats 1000000 in
theorem zat_92 {G : zG} {q0 q6 : Nat} {u v : Nat → Nat → Nat} : zAt0 G q0 q6 u v 92 := rfl
set_option maxRecDepth 20000 in
set_option maxHeartbeats 1000000 in
theorem zat_93 {G : zG} {q0 q6 : Nat} {u v : Nat → Nat → Nat} : zAt0 G q0 q6 u v 93 := rfl
set_option maxRecDepth 20000 in
set_option maxHeartbeats 1000000 in
theorem zat_94 {G : zG} {q0 q6 : Nat} {u v : Nat → Nat → Nat} : zAt0 G q0 q6 u v 94 := rfl
set_option maxRecDepth 20000 in
set_option maxHeartbeats 1000000 in
theorem zat_95 {G : zG} {q0 q6 : Nat} {u v : Nat → Nat → Nat} : zAt0 G q0 q6 u v 95 := rfl
set_option maxRecDepth 20000 in
set_option maxHeartbeats 1000000 in
theorem zat_96 {G : zG} {q0 q6 : Nat} {u v : Nat → Nat → Nat} : zAt0 G q0 q6 u v 96 := rfl
set_option maxRecDepth 20000 in
set_option maxHeartbeats 1000000 in
theorem zat_97 {G : zG} {q0 q6 : Nat} {u v : Nat → Nat → Nat} : zAt0 G q0 q6 u v 97 := rfl
set_option maxRecDepth 20000 in
set_option maxHeartbeats 1000000 in
theorem zat_98 {G : zG} {q0 q6 : Nat} {u v : Nat → Nat → Nat} : zAt0 G q0 q6 u v 98 := rfl
set_option maxRecDepth 20000 in
set_option maxHeartbeats 1000000 in
theorem zat_99 {G : zG} {q0 q6 : Nat} {u v : Nat → Nat → Nat} : zAt0 G q0 q6 u v 99 := rfl
set_option maxRecDepth 20000 in
set_option maxHeartbeats 1000000 in
theorem zat_100 {G : zG} {q0 q6 : Nat} {u v : Nat → Nat → Nat} : zAt0 G q0 q6 u v 100 := rfl
set_option maxRecDepth 20000 in
set_option maxHeartbeats 1000000 in
theorem zat_101 {G : zG} {q0 q6 : Nat} {u v : Nat → Nat → Nat} : zAt0 G q0 q6 u v 101 := rfl
set_option maxRecDepth 20000 in
set_option maxHeartbeats 1000000 in
theorem zat_102 {G : zG} {q0 q6 : Nat} {u v : Nat → Nat → Nat} : zAt0 G q0 q6 u v 102 := rfl
set_option maxRecDepth 20000 in
set_option maxHeartbeats 1000000 in
theorem zat_103 {G : zG} {q0 q6 : Nat} {u v : Nat → Nat → Nat} : zAt0 G q0 q6 u v 103 := rfl
set_option maxRecDepth 20000 in
set_option maxHeartbeats 1000000 in
theorem zat_104 {G : zG} {q0 q6 : Nat} {u v : Nat → Nat → Nat} : zAt0 G q0 q6 u v 104 := rfl
set_option maxRecDepth 20000 in
set_option maxHeartbeats 1000000 in
theorem zat_105 {G : zG} {q0 q6 : Nat} {u v : Nat → Nat → Nat} : zAt0 G q0 q6 u v 105 := rfl
set_option maxRecDepth 20000 in
set_option maxHeartbeats 1000000 in
theorem zat_106 {G : zG} {q0 q6 : Nat} {u v : Nat → Nat → Nat} : zAt0 G q0 q6 u v 106 := rfl
set_option maxRecDepth 20000 in
set_option maxHeartbeats 1000000 in
theorem zat_107 {G : zG} {q0 q6 : Nat} {u v : Nat → Nat → Nat} : zAt0 G q0 q6 u v 107 := rfl
set_option maxRecDepth 20000 in
set_option maxHeartbeats 1000000 in
theorem zat_108 {G : zG} {q0 q6 : Nat} {u v : Nat → Nat → Nat} : zAt0 G q0 q6 u v 108 := rfl
set_option maxRecDepth 20000 in
set_option maxHeartbeats 1000000 in
theorem zat_109 {G : zG} {q0 q6 : Nat} {u v : Nat → Nat → Nat} : zAt0 G q0 q6 u v 109 := rfl
set_option maxRecDepth 20000 in
set_option maxHeartbeats 1000000 in
theorem zat_110 {G : zG} {q0 q6 : Nat} {u v : Nat → Nat → Nat} : zAt0 G q0 q6 u v 110 := rfl
set_option maxRecDepth 20000 in
set_option maxHeartbeats 1000000 in
theorem zat_111 {G : zG} {q0 q6 : Nat} {u v : Nat → Nat → Nat} : zAt0 G q0 q6 u v 111 := rfl
set_option maxRecDepth 20000 in
set_option maxHeartbeats 1000000 in
theorem zat_112 {G : zG} {q0 q6 : Nat} {u v : Nat → Nat → Nat} : zAt0 G q0 q6 u v 112 := rfl
set_option maxRecDepth 20000 in
set_option maxHeartbeats 1000000 in
theorem zat_113 {G : zG} {q0 q6 : Nat} {u v : Nat → Nat → Nat} : zAt0 G q0 q6 u v 113 := rfl
set_option maxRecDepth 20000 in
set_option maxHeartbeats 1000000 in
theorem zat_114 {G : zG} {q0 q6 : Nat} {u v : Nat → Nat → Nat} : zAt0 G q0 q6 u v 114 := rfl
set_option maxRecDepth 20000 in
set_option maxHeartbeats 1000000 in
theorem zat_115 {G : zG} {q0 q6 : Nat} {u v : Nat → Nat → Nat} : zAt0 G q0 q6 u v 115 := rfl
set_option maxRecDepth 20000 in
set_option maxHeartbeats 1000000 in
theorem zat_116 {G : zG} {q0 q6 : Nat} {u v : Nat → Nat → Nat} : zAt0 G q0 q6 u v 116 := rfl
set_option maxRecDepth 20000 in
theorem zXX_at {G : zG} {q0 q6 : Nat} {u v : Nat → Nat → Nat} : ∀ p, p < 117 → zAt0 G q0 q6 u v p :=
  (zlt_s (zlt_s (zlt_s (zlt_s (zlt_s (zlt_s (zlt_s (zlt_s (zlt_s (zlt_s (zlt_s (zlt_s (zlt_s (zlt_s (zlt_s (zlt_s (zlt_s (zlt_s (zlt_s (zlt_s (zlt_s (zlt_s (zlt_s (zlt_s (zlt_s (zlt_s (zlt_s (zlt_s (zlt_s (zlt_s (zlt_s (zlt_s (zlt_s (zlt_s (zlt_s (zlt_s (zlt_s (zlt_s (zlt_s (zlt_s (zlt_s (zlt_s (zlt_s (zlt_s (zlt_s (zlt_s (zlt_s (zlt_s (zlt_s (zlt_s (zlt_s (zlt_s (zlt_s (zlt_s (zlt_s (zlt_s (zlt_s (zlt_s (zlt_s (zlt_s (zlt_s (zlt_s (zlt_s (zlt_s (zlt_s (zlt_s (zlt_s (zlt_s (zlt_s (zlt_s (zlt_s (zlt_s (zlt_s (zlt_s (zlt_s (zlt_s (zlt_s (zlt_s (zlt_s (zlt_s (zlt_s (zlt_s (zlt_s (zlt_s (zlt_s (zlt_s (zlt_s (zlt_s (zlt_s (zlt_s (zlt_s (zlt_s (zlt_s (zlt_s (zlt_s (zlt_s (zlt_s (zlt_s (zlt_s (zlt_s (zlt_s (zlt_s (zlt_s (zlt_s (zlt_s (zlt_s (zlt_s (zlt_s (zlt_s (zlt_s (zlt_s (zlt_s (zlt_s (zlt_s (zlt_s (zlt_s (zlt_s zlt_0 zat_0) zat_1) zat_2) zat_3) zat_4) zat_5) zat_6) zat_7) zat_8) zat_9) zat_10) zat_11) zat_12) zat_13) zat_14) zat_15) zat_16) zat_17) zat_18) zat_19) zat_20) zat_21) zat_22) zat_23) zat_24) zat_25) zat_26) zat_27) zat_28) zat_29) zat_30) zat_31) zat_32) zat_33) zat_34) zat_35) zat_36) zat_37) zat_38) zat_39) zat_40) zat_41) zat_42) zat_43) zat_44) zat_45) zat_46) zat_47) zat_48) zat_49) zat_50) zat_51) zat_52) zat_53) zat_54) zat_55) zat_56) zat_57) zat_58) zat_59) zat_60) zat_61) zat_62) zat_63) zat_64) zat_65) zat_66) zat_67) zat_68) zat_69) zat_70) zat_71) zat_72) zat_73) zat_74) zat_75) zat_76) zat_77) zat_78) zat_79) zat_80) zat_81) zat_82) zat_83) zat_84) zat_85) zat_86) zat_87) zat_88) zat_89) zat_90) zat_91) zat_92) zat_93) zat_94) zat_95) zat_96) zat_97) zat_98) zat_99) zat_100) zat_101) zat_102) zat_103) zat_104) zat_105) zat_106) zat_107) zat_108) zat_109) zat_110) zat_111) zat_112) zat_113) zat_114) zat_115) zat_116)
theorem zXX_P {G : zG} {q0 q6 : Nat} {u v : Nat → Nat → Nat} {H : Heap} (h : va_P G.1 vwCl (zXX G q0 q6 u v) H) : va_P G.1 vwCl (zW G (zA0 q0 q6 u v) zY0) H := fun k q hk => by
  obtain ⟨h1, rfl⟩ := zW_inv hk
  exact h k _ (zXX_at k h1)
theorem zXX_inj {G : zG} {q0 q6 : Nat} {u v : Nat → Nat → Nat} {B : Nat → Prop} (h : va_D B (zXX G q0 q6 u v)) : zInj (zA0 q0 q6 u v) := fun p q hp hq e => h.1 p q _ _ (zXX_at p hp) (zXX_at q hq) e
theorem zXX_ad {G : zG} {q0 q6 : Nat} {u v : Nat → Nat → Nat} {B : Nat → Prop} (h : va_D B (zXX G q0 q6 u v)) : ∀ q, zAd (zA0 q0 q6 u v) q → B q := fun q ⟨p, hp, e⟩ => e ▸ h.2 p _ (zXX_at p hp)
