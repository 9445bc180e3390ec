theorem zlt4 {L i : Nat} (hL : L ≤ 2048) (hi : i ≤ 2048) : (nI L - nI 4 < nI i) ↔ L < i + 4 := by
  rw [Int32.lt_iff_toInt_lt, pk_sub_toInt (by omega) (by omega), nI_toInt (by omega)]; omega
set_option maxHeartbeats 4000000 in
set_option maxRecDepth 100000 in
theorem law_loop {p : Program} {l : Launch} {e : Env} {s : State} {m : MethodId} {below : List Frame} {meth : Method} {c : Code} {Q : State → Prop} {b L : Nat} {xs : Nat → Int32} {G : zG} {A : Nat → Nat} (S : CallFix p m c cL_law 4 s #[Value.ref b] wsL_law RL) (hX0 : va_X b L xs s s.heap) (hbl : b < s.heap.size) (hK : zK G A s) (hB : ∀ q, zAd A q → (fun q : Nat => s.heap.size ≤ q) q) (hL : L ≤ 2048) (kx : ∀ (H : Heap) (locs : List Loc) (ls : Array Slot), va_S (fun q : Nat => s.heap.size ≤ q) s.heap H locs → W p l e room_1 s m #[Value.ref b] below meth c H locs 600000 7302250 Q (F0 m 559 ls [])) : ∀ (N i : Nat), L - i < N → i ≤ L → ∀ (Y : zY) (H : Heap) (locs : List Loc) (ls : Array Slot), va_P G.1 vwCl (zW G A Y) H → va_S (fun q : Nat => s.heap.size ≤ q) s.heap H locs → lv_has ls 4 [(0, .ref b), (1, .ref (A 0)), (2, .ref (A 102)), (3, .int (nI i))] → LV Y → W p l e room_1 s m #[Value.ref b] below meth c H locs 600000 7302250 Q (F0 m 18 ls []) := by
  intro N
  induction N with
  | zero => intro i hm; exact absurd hm (Nat.not_lt_zero _)
  | succ N ih =>
    intro i hm hiL Y H locs ls hP hS hl hLV
    refine lv_iload_n S.1 S.2.1 dL_law_18 rfl (lv_at hl 3 rfl) ?_
    refine lv_aload_n S.1 S.2.1 dL_law_19 rfl (lv_at hl 0 rfl) ?_
    refine va_slen S.1 S.2.1 hX0 hbl (Nat.not_le.mpr hbl) hS dL_law_20 ?_
    refine lv_iconst (v := nI 4) S.1 S.2.1 dL_law_21 (by decide) ?_
    refine lv_isub S.1 S.2.1 dL_law_22 ?_
    refine lv_icmp_gt (tgt := 559) S.1 S.2.1 dL_law_23 (by decide) (fun _ => kx _ _ _ hS) (fun hc => ?_)
    have hi4 : i + 4 ≤ L := Nat.not_lt.mp (fun z => hc ((zlt4 hL (by omega)).mpr z))
    have cont : ∀ (Y2 : zY) (H2 : Heap) (locs2 : List Loc), LV Y2 → va_P G.1 vwCl (zW G A Y2) H2 → va_S (fun q : Nat => s.heap.size ≤ q) s.heap H2 locs2 → W p l e room_1 s m #[Value.ref b] below meth c H2 locs2 600000 7302250 Q (F0 m 553 ls []) := by
      intro Y2 H2 locs2 hLV2 hP2 hS2
      refine lv_iinc (v := nI (i + 4)) (lv' := [(3, .int (nI (i + 4))), (0, .ref b), (1, .ref (A 0)), (2, .ref (A 102))]) S.1 S.2.1 dL_law_553 hl (k := 3) rfl (zinc4 _) (by decide) rfl (fun ls hl => ?_)
      refine lv_goto (tgt := 18) S.1 S.2.1 dL_law_556 (by decide) ?_
      exact ih (i + 4) (by omega) hi4 Y2 H2 locs2 ls hP2 hS2 (lv_sub hl [1, 2, 3, 0] rfl) hLV2
    refine lv_aload_n S.1 S.2.1 dL_law_26 rfl (lv_at hl 0 rfl) ?_
    refine lv_iload_n S.1 S.2.1 dL_law_27 rfl (lv_at hl 3 rfl) ?_
    refine zsl S hX0 hbl hS (by omega) hL dL_law_28 ?_
    refine lv_bipush (v := nI 31) S.1 S.2.1 dL_law_29 (by decide) ?_
    refine lv_iand S.1 S.2.1 dL_law_31 ?_
    obtain ⟨k, hk, ek⟩ := pk_andE (xs i) (m := nI 31) 5 (by decide)
    rw [ek]
    by_cases h0 : k = 0
    · exact ztabIn S (k := 0) (off := 84) (tgt := 116) h0 dL_law_32 (by decide) (by decide) rfl (by decide) (lc_type S hX0 hbl hK hB hL hi4 hP hS hl hLV cont)
    by_cases h1 : k = 1
    · exact ztabIn S (k := 1) (off := 109) (tgt := 141) h1 dL_law_32 (by decide) (by decide) rfl (by decide) (lc_compile S hX0 hbl hK hB hL hi4 hP hS hl hLV cont)
    by_cases h2 : k = 2
    · exact ztabIn S (k := 2) (off := 122) (tgt := 154) h2 dL_law_32 (by decide) (by decide) rfl (by decide) (lc_nodes S hX0 hbl hK hB hL hi4 hP hS hl hLV cont)
    by_cases h3 : k = 3
    · exact ztabIn S (k := 3) (off := 135) (tgt := 167) h3 dL_law_32 (by decide) (by decide) rfl (by decide) (lc_weights S hX0 hbl hK hB hL hi4 hP hS hl hLV cont)
    by_cases h4 : k = 4
    · exact ztabIn S (k := 4) (off := 178) (tgt := 210) h4 dL_law_32 (by decide) (by decide) rfl (by decide) (lc_bound S hX0 hbl hK hB hL hi4 hP hS hl hLV cont)
    by_cases h5 : k = 5
    · exact ztabIn S (k := 5) (off := 201) (tgt := 233) h5 dL_law_32 (by decide) (by decide) rfl (by decide) (lc_write S hX0 hbl hK hB hL hi4 hP hS hl hLV cont)
    by_cases h6 : k = 6
    · exact ztabIn S (k := 6) (off := 226) (tgt := 258) h6 dL_law_32 (by decide) (by decide) rfl (by decide) (lc_erase S hX0 hbl hK hB hL hi4 hP hS hl hLV cont)
    by_cases h7 : k = 7
    · exact ztabIn S (k := 7) (off := 237) (tgt := 269) h7 dL_law_32 (by decide) (by decide) rfl (by decide) (lc_cost S hX0 hbl hK hB hL hi4 hP hS hl hLV cont)
    by_cases h8 : k = 8
    · exact ztabIn S (k := 8) (off := 270) (tgt := 302) h8 dL_law_32 (by decide) (by decide) rfl (by decide) (lc_find S hX0 hbl hK hB hL hi4 hP hS hl hLV cont)
    by_cases h9 : k = 9
    · exact ztabIn S (k := 9) (off := 309) (tgt := 341) h9 dL_law_32 (by decide) (by decide) rfl (by decide) (lc_from S hX0 hbl hK hB hL hi4 hP hS hl hLV cont)
    by_cases h10 : k = 10
    · exact ztabIn S (k := 10) (off := 322) (tgt := 354) h10 dL_law_32 (by decide) (by decide) rfl (by decide) (lc_to S hX0 hbl hK hB hL hi4 hP hS hl hLV cont)
    by_cases h11 : k = 11
    · exact ztabIn S (k := 11) (off := 335) (tgt := 367) h11 dL_law_32 (by decide) (by decide) rfl (by decide) (lc_ends S hX0 hbl hK hB hL hi4 hP hS hl hLV cont)
    by_cases h12 : k = 12
    · exact ztabIn S (k := 12) (off := 348) (tgt := 380) h12 dL_law_32 (by decide) (by decide) rfl (by decide) (lc_add S hX0 hbl hK hB hL hi4 hP hS hl hLV cont)
    by_cases h13 : k = 13
    · exact ztabIn S (k := 13) (off := 361) (tgt := 393) h13 dL_law_32 (by decide) (by decide) rfl (by decide) (lc_words S hX0 hbl hK hB hL hi4 hP hS hl hLV cont)
    by_cases h14 : k = 14
    · exact ztabIn S (k := 14) (off := 374) (tgt := 406) h14 dL_law_32 (by decide) (by decide) rfl (by decide) (lc_distance S hX0 hbl hK hB hL hi4 hP hS hl hLV cont)
    by_cases h15 : k = 15
    · exact ztabIn S (k := 15) (off := 423) (tgt := 455) h15 dL_law_32 (by decide) (by decide) rfl (by decide) (lc_near S hX0 hbl hK hB hL hi4 hP hS hl hLV cont)
    by_cases h16 : k = 16
    · exact ztabIn S (k := 16) (off := 472) (tgt := 504) h16 dL_law_32 (by decide) (by decide) rfl (by decide) (lc_rank S hX0 hbl hK hB hL hi4 hP hS hl hLV cont)
    exact ztabOut S (tgt := 553) (by omega) dL_law_32 (by omega) (by decide) (cont Y H locs hLV hP hS)
