theorem nx_41 {s d t : Nat} (h : nx s 41 d = some t) (hs : ¬ (2 ≤ s ∧ s ≤ 4)) : 0 < d := by
  unfold nx at h
  repeat' split at h
  all_goals first | omega | cases h
set_option maxHeartbeats 4000000 in
set_option maxRecDepth 100000 in
theorem kX6_next (l : Launch) (G : zG) (A : Nat → Nat) (Y : zY) (sx cx dx : Nat) (hs : sx < 2 ^ 30) (hc : cx < 2 ^ 30) (hd : dx < 2 ^ 30) : ZI l yX6_next cX6_next 4 (.int) 1 20 G A Y [.int (nI sx), .int (nI cx), .int (nI dx)] (fun r Y' => (∃ t, nx sx cx dx = some t ∧ r = nI t ∧ Y' = Y) ∨ (nx sx cx dx = none ∧ r = -1 ∧ Y' = Y)) := by
  refine ZI.enter (by decide) (Nat.le_of_ble_eq_true rfl) ?_
  intro p e s m args below meth c R Q hxx hbb S hK hfr hlo hret H ls hP hS hl
  have hB : ∀ q, zAd A q → zAd A q := fun _ h => h
  have hl : lv_has ls 4 [(0, .int (nI sx)), (1, .int (nI cx)), (2, .int (nI dx))] := hl
  have S : CallFix p m c cX6_next 4 s args wsL_law RX6 := S
  refine lv_iload_n hxx hbb dX6_next_0 rfl (lv_at hl 0 rfl) ?_
  refine lv_iconst (v := nI 2) hxx hbb dX6_next_1 (by decide) ?_
  refine zcmp_eq (tgt := 15) S (by omega) (by omega) dX6_next_2 (by decide) (fun c_1 => ?_) (fun c_1 => ?_)
  · skip
    refine lv_iload_n hxx hbb dX6_next_15 rfl (lv_at hl 1 rfl) ?_
    refine ZI.callS S hK hP hS hB (kX6_small l G A Y cx (by omega)) zwX6_71 zdX6_small rfl ⟨Nat.le_trans (by decide) hfr, Nat.le_trans (by decide) hlo⟩ rfl (Nat.le_of_ble_eq_true rfl) hl.1 dX6_next_16 ⟨Nat.zero_le _, Nat.zero_le _⟩ (fun r_2 Y_3 H locs hq_4 hP hS => ?_)
    rcases hq_4 with ⟨hb_5, hr9, hY9⟩ | ⟨hb_5, hr9, hY9⟩
    · skip
      subst hr9; rw [hY9] at hP
      refine zif_eq (tgt := 26) S (by omega) dX6_next_19 (by decide) (fun c_6 => ?_) (fun c_6 => ?_)
      · skip
        exact absurd c_6 (by decide)
      · skip
        refine lv_iconst (v := nI 4) hxx hbb dX6_next_22 (by decide) ?_
        refine lv_goto (tgt := 57) hxx hbb dX6_next_23 (by decide) ?_
        exact hret _ _ _ _ _ _ dX6_next_57 (rfl) hP hS (Or.inl ⟨4, by first | (exfalso; omega) | (unfold nx; (repeat (first | rw [if_pos (by omega)] | rw [if_neg (by omega)]))), rfl, rfl⟩)
    · skip
      subst hr9; rw [hY9] at hP
      refine zif_eq (tgt := 26) S (by omega) dX6_next_19 (by decide) (fun c_7 => ?_) (fun c_7 => ?_)
      · skip
        refine lv_iload_n hxx hbb dX6_next_26 rfl (lv_at hl 0 rfl) ?_
        refine lv_iconst (v := nI 2) hxx hbb dX6_next_27 (by decide) ?_
        refine zcmp_ne (tgt := 41) S (by omega) (by omega) dX6_next_28 (by decide) (fun c_8 => ?_) (fun c_8 => ?_)
        · skip
          refine lv_iload_n hxx hbb dX6_next_41 rfl (lv_at hl 0 rfl) ?_
          refine lv_iconst (v := nI 4) hxx hbb dX6_next_42 (by decide) ?_
          refine zcmp_ne (tgt := 56) S (by omega) (by omega) dX6_next_43 (by decide) (fun c_9 => ?_) (fun c_9 => ?_)
          · skip
            refine lv_iconst (v := (-1)) hxx hbb dX6_next_56 (by decide) ?_
            exact hret _ _ _ _ _ _ dX6_next_57 (rfl) hP hS (Or.inr ⟨by first | (exfalso; omega) | (unfold nx; (repeat (first | rw [if_pos (by omega)] | rw [if_neg (by omega)]))), rfl, rfl⟩)
          · skip
            refine lv_iload_n hxx hbb dX6_next_46 rfl (lv_at hl 1 rfl) ?_
            refine lv_bipush (v := nI 93) hxx hbb dX6_next_47 (by decide) ?_
            refine zcmp_ne (tgt := 56) S (by omega) (by omega) dX6_next_49 (by decide) (fun c_10 => ?_) (fun c_10 => ?_)
            · skip
              refine lv_iconst (v := (-1)) hxx hbb dX6_next_56 (by decide) ?_
              exact hret _ _ _ _ _ _ dX6_next_57 (rfl) hP hS (Or.inr ⟨by first | (exfalso; omega) | (unfold nx; (repeat (first | rw [if_pos (by omega)] | rw [if_neg (by omega)]))), rfl, rfl⟩)
            · skip
              refine lv_iconst (v := nI 1) hxx hbb dX6_next_52 (by decide) ?_
              refine lv_goto (tgt := 57) hxx hbb dX6_next_53 (by decide) ?_
              exact hret _ _ _ _ _ _ dX6_next_57 (rfl) hP hS (Or.inl ⟨1, by first | (exfalso; omega) | (unfold nx; (repeat (first | rw [if_pos (by omega)] | rw [if_neg (by omega)]))), rfl, rfl⟩)
        · skip
          refine lv_iload_n hxx hbb dX6_next_31 rfl (lv_at hl 1 rfl) ?_
          refine lv_bipush (v := nI 94) hxx hbb dX6_next_32 (by decide) ?_
          refine zcmp_ne (tgt := 41) S (by omega) (by omega) dX6_next_34 (by decide) (fun c_11 => ?_) (fun c_11 => ?_)
          · skip
            refine lv_iload_n hxx hbb dX6_next_41 rfl (lv_at hl 0 rfl) ?_
            refine lv_iconst (v := nI 4) hxx hbb dX6_next_42 (by decide) ?_
            refine zcmp_ne (tgt := 56) S (by omega) (by omega) dX6_next_43 (by decide) (fun c_12 => ?_) (fun c_12 => ?_)
            · skip
              refine lv_iconst (v := (-1)) hxx hbb dX6_next_56 (by decide) ?_
              exact hret _ _ _ _ _ _ dX6_next_57 (rfl) hP hS (Or.inr ⟨by first | (exfalso; omega) | (unfold nx; (repeat (first | rw [if_pos (by omega)] | rw [if_neg (by omega)]))), rfl, rfl⟩)
            · skip
              refine lv_iload_n hxx hbb dX6_next_46 rfl (lv_at hl 1 rfl) ?_
              refine lv_bipush (v := nI 93) hxx hbb dX6_next_47 (by decide) ?_
              refine zcmp_ne (tgt := 56) S (by omega) (by omega) dX6_next_49 (by decide) (fun c_13 => ?_) (fun c_13 => ?_)
              · skip
                refine lv_iconst (v := (-1)) hxx hbb dX6_next_56 (by decide) ?_
                exact hret _ _ _ _ _ _ dX6_next_57 (rfl) hP hS (Or.inr ⟨by first | (exfalso; omega) | (unfold nx; (repeat (first | rw [if_pos (by omega)] | rw [if_neg (by omega)]))), rfl, rfl⟩)
              · skip
                refine lv_iconst (v := nI 1) hxx hbb dX6_next_52 (by decide) ?_
                refine lv_goto (tgt := 57) hxx hbb dX6_next_53 (by decide) ?_
                exact hret _ _ _ _ _ _ dX6_next_57 (rfl) hP hS (Or.inl ⟨1, by first | (exfalso; omega) | (unfold nx; (repeat (first | rw [if_pos (by omega)] | rw [if_neg (by omega)]))), rfl, rfl⟩)
          · skip
            refine lv_iconst (v := nI 3) hxx hbb dX6_next_37 (by decide) ?_
            refine lv_goto (tgt := 57) hxx hbb dX6_next_38 (by decide) ?_
            exact hret _ _ _ _ _ _ dX6_next_57 (rfl) hP hS (Or.inl ⟨3, by first | (exfalso; omega) | (unfold nx; (repeat (first | rw [if_pos (by omega)] | rw [if_neg (by omega)]))), rfl, rfl⟩)
      · skip
        exact absurd c_7 (by decide)
  · skip
    refine lv_iload_n hxx hbb dX6_next_5 rfl (lv_at hl 0 rfl) ?_
    refine lv_iconst (v := nI 3) hxx hbb dX6_next_6 (by decide) ?_
    refine zcmp_eq (tgt := 15) S (by omega) (by omega) dX6_next_7 (by decide) (fun c_14 => ?_) (fun c_14 => ?_)
    · skip
      refine lv_iload_n hxx hbb dX6_next_15 rfl (lv_at hl 1 rfl) ?_
      refine ZI.callS S hK hP hS hB (kX6_small l G A Y cx (by omega)) zwX6_71 zdX6_small rfl ⟨Nat.le_trans (by decide) hfr, Nat.le_trans (by decide) hlo⟩ rfl (Nat.le_of_ble_eq_true rfl) hl.1 dX6_next_16 ⟨Nat.zero_le _, Nat.zero_le _⟩ (fun r_15 Y_16 H locs hq_17 hP hS => ?_)
      rcases hq_17 with ⟨hb_18, hr9, hY9⟩ | ⟨hb_18, hr9, hY9⟩
      · skip
        subst hr9; rw [hY9] at hP
        refine zif_eq (tgt := 26) S (by omega) dX6_next_19 (by decide) (fun c_19 => ?_) (fun c_19 => ?_)
        · skip
          exact absurd c_19 (by decide)
        · skip
          refine lv_iconst (v := nI 4) hxx hbb dX6_next_22 (by decide) ?_
          refine lv_goto (tgt := 57) hxx hbb dX6_next_23 (by decide) ?_
          exact hret _ _ _ _ _ _ dX6_next_57 (rfl) hP hS (Or.inl ⟨4, by first | (exfalso; omega) | (unfold nx; (repeat (first | rw [if_pos (by omega)] | rw [if_neg (by omega)]))), rfl, rfl⟩)
      · skip
        subst hr9; rw [hY9] at hP
        refine zif_eq (tgt := 26) S (by omega) dX6_next_19 (by decide) (fun c_20 => ?_) (fun c_20 => ?_)
        · skip
          refine lv_iload_n hxx hbb dX6_next_26 rfl (lv_at hl 0 rfl) ?_
          refine lv_iconst (v := nI 2) hxx hbb dX6_next_27 (by decide) ?_
          refine zcmp_ne (tgt := 41) S (by omega) (by omega) dX6_next_28 (by decide) (fun c_21 => ?_) (fun c_21 => ?_)
          · skip
            refine lv_iload_n hxx hbb dX6_next_41 rfl (lv_at hl 0 rfl) ?_
            refine lv_iconst (v := nI 4) hxx hbb dX6_next_42 (by decide) ?_
            refine zcmp_ne (tgt := 56) S (by omega) (by omega) dX6_next_43 (by decide) (fun c_22 => ?_) (fun c_22 => ?_)
            · skip
              refine lv_iconst (v := (-1)) hxx hbb dX6_next_56 (by decide) ?_
              exact hret _ _ _ _ _ _ dX6_next_57 (rfl) hP hS (Or.inr ⟨by first | (exfalso; omega) | (unfold nx; (repeat (first | rw [if_pos (by omega)] | rw [if_neg (by omega)]))), rfl, rfl⟩)
            · skip
              refine lv_iload_n hxx hbb dX6_next_46 rfl (lv_at hl 1 rfl) ?_
              refine lv_bipush (v := nI 93) hxx hbb dX6_next_47 (by decide) ?_
              refine zcmp_ne (tgt := 56) S (by omega) (by omega) dX6_next_49 (by decide) (fun c_23 => ?_) (fun c_23 => ?_)
              · skip
                refine lv_iconst (v := (-1)) hxx hbb dX6_next_56 (by decide) ?_
                exact hret _ _ _ _ _ _ dX6_next_57 (rfl) hP hS (Or.inr ⟨by first | (exfalso; omega) | (unfold nx; (repeat (first | rw [if_pos (by omega)] | rw [if_neg (by omega)]))), rfl, rfl⟩)
              · skip
                refine lv_iconst (v := nI 1) hxx hbb dX6_next_52 (by decide) ?_
                refine lv_goto (tgt := 57) hxx hbb dX6_next_53 (by decide) ?_
                exact hret _ _ _ _ _ _ dX6_next_57 (rfl) hP hS (Or.inl ⟨1, by first | (exfalso; omega) | (unfold nx; (repeat (first | rw [if_pos (by omega)] | rw [if_neg (by omega)]))), rfl, rfl⟩)
          · skip
            refine lv_iload_n hxx hbb dX6_next_31 rfl (lv_at hl 1 rfl) ?_
            refine lv_bipush (v := nI 94) hxx hbb dX6_next_32 (by decide) ?_
            refine zcmp_ne (tgt := 41) S (by omega) (by omega) dX6_next_34 (by decide) (fun c_24 => ?_) (fun c_24 => ?_)
            · skip
              refine lv_iload_n hxx hbb dX6_next_41 rfl (lv_at hl 0 rfl) ?_
              refine lv_iconst (v := nI 4) hxx hbb dX6_next_42 (by decide) ?_
              refine zcmp_ne (tgt := 56) S (by omega) (by omega) dX6_next_43 (by decide) (fun c_25 => ?_) (fun c_25 => ?_)
              · skip
                refine lv_iconst (v := (-1)) hxx hbb dX6_next_56 (by decide) ?_
                exact hret _ _ _ _ _ _ dX6_next_57 (rfl) hP hS (Or.inr ⟨by first | (exfalso; omega) | (unfold nx; (repeat (first | rw [if_pos (by omega)] | rw [if_neg (by omega)]))), rfl, rfl⟩)
              · skip
                refine lv_iload_n hxx hbb dX6_next_46 rfl (lv_at hl 1 rfl) ?_
                refine lv_bipush (v := nI 93) hxx hbb dX6_next_47 (by decide) ?_
                refine zcmp_ne (tgt := 56) S (by omega) (by omega) dX6_next_49 (by decide) (fun c_26 => ?_) (fun c_26 => ?_)
                · skip
                  refine lv_iconst (v := (-1)) hxx hbb dX6_next_56 (by decide) ?_
                  exact hret _ _ _ _ _ _ dX6_next_57 (rfl) hP hS (Or.inr ⟨by first | (exfalso; omega) | (unfold nx; (repeat (first | rw [if_pos (by omega)] | rw [if_neg (by omega)]))), rfl, rfl⟩)
                · skip
                  refine lv_iconst (v := nI 1) hxx hbb dX6_next_52 (by decide) ?_
                  refine lv_goto (tgt := 57) hxx hbb dX6_next_53 (by decide) ?_
                  exact hret _ _ _ _ _ _ dX6_next_57 (rfl) hP hS (Or.inl ⟨1, by first | (exfalso; omega) | (unfold nx; (repeat (first | rw [if_pos (by omega)] | rw [if_neg (by omega)]))), rfl, rfl⟩)
            · skip
              refine lv_iconst (v := nI 3) hxx hbb dX6_next_37 (by decide) ?_
              refine lv_goto (tgt := 57) hxx hbb dX6_next_38 (by decide) ?_
              exact hret _ _ _ _ _ _ dX6_next_57 (rfl) hP hS (Or.inl ⟨3, by first | (exfalso; omega) | (unfold nx; (repeat (first | rw [if_pos (by omega)] | rw [if_neg (by omega)]))), rfl, rfl⟩)
        · skip
          exact absurd c_20 (by decide)
    · skip
      refine lv_iload_n hxx hbb dX6_next_10 rfl (lv_at hl 0 rfl) ?_
      refine lv_iconst (v := nI 4) hxx hbb dX6_next_11 (by decide) ?_
      refine zcmp_ne (tgt := 58) S (by omega) (by omega) dX6_next_12 (by decide) (fun c_27 => ?_) (fun c_27 => ?_)
      · skip
        refine lv_iload_n hxx hbb dX6_next_58 rfl (lv_at hl 1 rfl) ?_
        refine lv_bipush (v := nI 48) hxx hbb dX6_next_59 (by decide) ?_
        refine zcmp_lt (tgt := 74) S (by omega) (by omega) dX6_next_61 (by decide) (fun c_28 => ?_) (fun c_28 => ?_)
        · skip
          refine lv_iconst (v := nI 0) hxx hbb dX6_next_74 (by decide) ?_
          refine lv_istore_n (lv' := [(3, .int (nI 0)), (0, .int (nI sx)), (1, .int (nI cx)), (2, .int (nI dx))]) hxx hbb dX6_next_75 rfl hl (by decide) rfl (fun ls hl => ?_)
          refine lv_iload_n hxx hbb dX6_next_76 rfl (lv_at hl 1 rfl) ?_
          refine lv_iconst (v := nI 5) hxx hbb dX6_next_77 (by decide) ?_
          refine zcmp_ne (tgt := 92) S (by omega) (by omega) dX6_next_78 (by decide) (fun c_29 => ?_) (fun c_29 => ?_)
          · skip
            refine lv_iload_n hxx hbb dX6_next_92 rfl (lv_at hl 1 rfl) ?_
            refine lv_bipush (v := nI 6) hxx hbb dX6_next_93 (by decide) ?_
            refine zcmp_ne (tgt := 104) S (by omega) (by omega) dX6_next_95 (by decide) (fun c_30 => ?_) (fun c_30 => ?_)
            · skip
              refine lv_iload_n hxx hbb dX6_next_104 rfl (lv_at hl 2 rfl) ?_
              refine ZI.callS S hK hP hS hB (kX6_small l G A Y cx (by omega)) zwX6_71 zdX6_small rfl ⟨Nat.le_trans (by decide) hfr, Nat.le_trans (by decide) hlo⟩ rfl (Nat.le_of_ble_eq_true rfl) hl.1 dX6_next_105 ⟨Nat.zero_le _, Nat.zero_le _⟩ (fun r_31 Y_32 H locs hq_33 hP hS => ?_)
              rcases hq_33 with ⟨hb_34, hr9, hY9⟩ | ⟨hb_34, hr9, hY9⟩
              · skip
                subst hr9; rw [hY9] at hP
                refine zif_ne (tgt := 117) S (by omega) dX6_next_108 (by decide) (fun c_35 => ?_) (fun c_35 => ?_)
                · skip
                  refine lv_iconst (v := nI 1) hxx hbb dX6_next_117 (by decide) ?_
                  exact hret _ _ _ _ _ _ dX6_next_118 (rfl) hP hS (Or.inl ⟨1, by first | (exfalso; omega) | (unfold nx; (repeat (first | rw [if_pos (by omega)] | rw [if_neg (by omega)]))), rfl, rfl⟩)
                · skip
                  exact absurd c_35 (by decide)
              · skip
                subst hr9; rw [hY9] at hP
                refine zif_ne (tgt := 117) S (by omega) dX6_next_108 (by decide) (fun c_36 => ?_) (fun c_36 => ?_)
                · skip
                  exact absurd c_36 (by decide)
                · skip
                  refine lv_iload_n hxx hbb dX6_next_111 rfl (lv_at hl 2 rfl) ?_
                  refine lv_bipush (v := nI 46) hxx hbb dX6_next_112 (by decide) ?_
                  refine zcmp_ne (tgt := 119) S (by omega) (by omega) dX6_next_114 (by decide) (fun c_37 => ?_) (fun c_37 => ?_)
                  · skip
                    refine lv_iload_n hxx hbb dX6_next_119 rfl (lv_at hl 2 rfl) ?_
                    refine lv_bipush (v := nI 91) hxx hbb dX6_next_120 (by decide) ?_
                    refine zcmp_ne (tgt := 127) S (by omega) (by omega) dX6_next_122 (by decide) (fun c_38 => ?_) (fun c_38 => ?_)
                    · skip
                      refine lv_iload_n hxx hbb dX6_next_127 rfl (lv_at hl 2 rfl) ?_
                      refine lv_bipush (v := nI 40) hxx hbb dX6_next_128 (by decide) ?_
                      refine zcmp_ne (tgt := 145) S (by omega) (by omega) dX6_next_130 (by decide) (fun c_39 => ?_) (fun c_39 => ?_)
                      · skip
                        refine lv_iload_n hxx hbb dX6_next_145 rfl (lv_at hl 1 rfl) ?_
                        refine zif_ne (tgt := 151) S (by omega) dX6_next_146 (by decide) (fun c_40 => ?_) (fun c_40 => ?_)
                        · skip
                          refine lv_iload_n hxx hbb dX6_next_151 rfl (lv_at hl 2 rfl) ?_
                          refine lv_bipush (v := nI 42) hxx hbb dX6_next_152 (by decide) ?_
                          refine zcmp_eq (tgt := 169) S (by omega) (by omega) dX6_next_154 (by decide) (fun c_41 => ?_) (fun c_41 => ?_)
                          · skip
                            refine lv_iconst (v := nI 1) hxx hbb dX6_next_169 (by decide) ?_
                            exact hret _ _ _ _ _ _ dX6_next_170 (rfl) hP hS (Or.inl ⟨1, by first | (exfalso; omega) | (unfold nx; (repeat (first | rw [if_pos (by omega)] | rw [if_neg (by omega)]))), rfl, rfl⟩)
                          · skip
                            refine lv_iload_n hxx hbb dX6_next_157 rfl (lv_at hl 2 rfl) ?_
                            refine lv_bipush (v := nI 43) hxx hbb dX6_next_158 (by decide) ?_
                            refine zcmp_eq (tgt := 169) S (by omega) (by omega) dX6_next_160 (by decide) (fun c_42 => ?_) (fun c_42 => ?_)
                            · skip
                              refine lv_iconst (v := nI 1) hxx hbb dX6_next_169 (by decide) ?_
                              exact hret _ _ _ _ _ _ dX6_next_170 (rfl) hP hS (Or.inl ⟨1, by first | (exfalso; omega) | (unfold nx; (repeat (first | rw [if_pos (by omega)] | rw [if_neg (by omega)]))), rfl, rfl⟩)
                            · skip
                              refine lv_iload_n hxx hbb dX6_next_163 rfl (lv_at hl 2 rfl) ?_
                              refine lv_bipush (v := nI 63) hxx hbb dX6_next_164 (by decide) ?_
                              refine zcmp_ne (tgt := 171) S (by omega) (by omega) dX6_next_166 (by decide) (fun c_43 => ?_) (fun c_43 => ?_)
                              · skip
                                refine lv_iload_n hxx hbb dX6_next_171 rfl (lv_at hl 2 rfl) ?_
                                refine lv_bipush (v := nI 60) hxx hbb dX6_next_172 (by decide) ?_
                                refine zcmp_ne (tgt := 181) S (by omega) (by omega) dX6_next_174 (by decide) (fun c_44 => ?_) (fun c_44 => ?_)
                                · skip
                                  refine lv_iload_n hxx hbb dX6_next_181 rfl (lv_at hl 2 rfl) ?_
                                  refine lv_bipush (v := nI 124) hxx hbb dX6_next_182 (by decide) ?_
                                  refine zcmp_ne (tgt := 191) S (by omega) (by omega) dX6_next_184 (by decide) (fun c_45 => ?_) (fun c_45 => ?_)
                                  · skip
                                    refine lv_iload_n hxx hbb dX6_next_191 rfl (lv_at hl 2 rfl) ?_
                                    refine lv_bipush (v := nI 41) hxx hbb dX6_next_192 (by decide) ?_
                                    refine zcmp_ne (tgt := 205) S (by omega) (by omega) dX6_next_194 (by decide) (fun c_46 => ?_) (fun c_46 => ?_)
                                    · skip
                                      refine lv_iconst (v := (-1)) hxx hbb dX6_next_205 (by decide) ?_
                                      exact hret _ _ _ _ _ _ dX6_next_206 (rfl) hP hS (Or.inr ⟨by first | (exfalso; omega) | (unfold nx; (repeat (first | rw [if_pos (by omega)] | rw [if_neg (by omega)]))), rfl, rfl⟩)
                                    · skip
                                      refine lv_iload_n hxx hbb dX6_next_197 rfl (lv_at hl 3 rfl) ?_
                                      refine zif_le (tgt := 205) S (by omega) dX6_next_198 (by decide) (fun c_47 => ?_) (fun c_47 => ?_)
                                      · skip
                                        refine lv_iconst (v := (-1)) hxx hbb dX6_next_205 (by decide) ?_
                                        exact hret _ _ _ _ _ _ dX6_next_206 (rfl) hP hS (Or.inr ⟨by first | (exfalso; omega) | (unfold nx; (repeat (first | rw [if_pos (by omega)] | rw [if_neg (by omega)]))), rfl, rfl⟩)
                                      · skip
                                        refine lv_iconst (v := nI 1) hxx hbb dX6_next_201 (by decide) ?_
                                        refine lv_goto (tgt := 206) hxx hbb dX6_next_202 (by decide) ?_
                                        exact hret _ _ _ _ _ _ dX6_next_206 (rfl) hP hS (Or.inl ⟨1, by first | (exfalso; omega) | (unfold nx; (repeat (first | rw [if_pos (by omega)] | rw [if_neg (by omega)]))), rfl, rfl⟩)
                                  · skip
                                    refine lv_iconst (v := nI 0) hxx hbb dX6_next_187 (by decide) ?_
                                    refine lv_goto (tgt := 206) hxx hbb dX6_next_188 (by decide) ?_
                                    exact hret _ _ _ _ _ _ dX6_next_206 (rfl) hP hS (Or.inl ⟨0, by first | (exfalso; omega) | (unfold nx; (repeat (first | rw [if_pos (by omega)] | rw [if_neg (by omega)]))), rfl, rfl⟩)
                                · skip
                                  refine lv_iconst (v := nI 5) hxx hbb dX6_next_177 (by decide) ?_
                                  refine lv_goto (tgt := 206) hxx hbb dX6_next_178 (by decide) ?_
                                  exact hret _ _ _ _ _ _ dX6_next_206 (rfl) hP hS (Or.inl ⟨5, by first | (exfalso; omega) | (unfold nx; (repeat (first | rw [if_pos (by omega)] | rw [if_neg (by omega)]))), rfl, rfl⟩)
                              · skip
                                refine lv_iconst (v := nI 1) hxx hbb dX6_next_169 (by decide) ?_
                                exact hret _ _ _ _ _ _ dX6_next_170 (rfl) hP hS (Or.inl ⟨1, by first | (exfalso; omega) | (unfold nx; (repeat (first | rw [if_pos (by omega)] | rw [if_neg (by omega)]))), rfl, rfl⟩)
                        · skip
                          refine lv_iconst (v := (-1)) hxx hbb dX6_next_149 (by decide) ?_
                          exact hret _ _ _ _ _ _ dX6_next_150 (rfl) hP hS (Or.inr ⟨by first | (exfalso; omega) | (unfold nx; (repeat (first | rw [if_pos (by omega)] | rw [if_neg (by omega)]))), rfl, rfl⟩)
                      · skip
                        refine lv_iload_n hxx hbb dX6_next_133 rfl (lv_at hl 3 rfl) ?_
                        refine lv_bipush (v := nI 6) hxx hbb dX6_next_134 (by decide) ?_
                        refine zcmp_ge (tgt := 143) S (by omega) (by omega) dX6_next_136 (by decide) (fun c_48 => ?_) (fun c_48 => ?_)
                        · skip
                          refine lv_iconst (v := (-1)) hxx hbb dX6_next_143 (by decide) ?_
                          exact hret _ _ _ _ _ _ dX6_next_144 (rfl) hP hS (Or.inr ⟨by first | (exfalso; omega) | (unfold nx; (repeat (first | rw [if_pos (by omega)] | rw [if_neg (by omega)]))), rfl, rfl⟩)
                        · skip
                          refine lv_iconst (v := nI 0) hxx hbb dX6_next_139 (by decide) ?_
                          refine lv_goto (tgt := 144) hxx hbb dX6_next_140 (by decide) ?_
                          exact hret _ _ _ _ _ _ dX6_next_144 (rfl) hP hS (Or.inl ⟨0, by first | (exfalso; omega) | (unfold nx; (repeat (first | rw [if_pos (by omega)] | rw [if_neg (by omega)]))), rfl, rfl⟩)
                    · skip
                      refine lv_iconst (v := nI 2) hxx hbb dX6_next_125 (by decide) ?_
                      exact hret _ _ _ _ _ _ dX6_next_126 (rfl) hP hS (Or.inl ⟨2, by first | (exfalso; omega) | (unfold nx; (repeat (first | rw [if_pos (by omega)] | rw [if_neg (by omega)]))), rfl, rfl⟩)
                  · skip
                    refine lv_iconst (v := nI 1) hxx hbb dX6_next_117 (by decide) ?_
                    exact hret _ _ _ _ _ _ dX6_next_118 (rfl) hP hS (Or.inl ⟨1, by first | (exfalso; omega) | (unfold nx; (repeat (first | rw [if_pos (by omega)] | rw [if_neg (by omega)]))), rfl, rfl⟩)
            · skip
              refine lv_iload_n hxx hbb dX6_next_98 rfl (lv_at hl 0 rfl) ?_
              refine zif_eq (tgt := 104) S (by omega) dX6_next_99 (by decide) (fun c_49 => ?_) (fun c_49 => ?_)
              · skip
                refine lv_iload_n hxx hbb dX6_next_104 rfl (lv_at hl 2 rfl) ?_
                refine ZI.callS S hK hP hS hB (kX6_small l G A Y cx (by omega)) zwX6_71 zdX6_small rfl ⟨Nat.le_trans (by decide) hfr, Nat.le_trans (by decide) hlo⟩ rfl (Nat.le_of_ble_eq_true rfl) hl.1 dX6_next_105 ⟨Nat.zero_le _, Nat.zero_le _⟩ (fun r_50 Y_51 H locs hq_52 hP hS => ?_)
                rcases hq_52 with ⟨hb_53, hr9, hY9⟩ | ⟨hb_53, hr9, hY9⟩
                · skip
                  subst hr9; rw [hY9] at hP
                  refine zif_ne (tgt := 117) S (by omega) dX6_next_108 (by decide) (fun c_54 => ?_) (fun c_54 => ?_)
                  · skip
                    refine lv_iconst (v := nI 1) hxx hbb dX6_next_117 (by decide) ?_
                    exact hret _ _ _ _ _ _ dX6_next_118 (rfl) hP hS (Or.inl ⟨1, by first | (exfalso; omega) | (unfold nx; (repeat (first | rw [if_pos (by omega)] | rw [if_neg (by omega)]))), rfl, rfl⟩)
                  · skip
                    exact absurd c_54 (by decide)
                · skip
                  subst hr9; rw [hY9] at hP
                  refine zif_ne (tgt := 117) S (by omega) dX6_next_108 (by decide) (fun c_55 => ?_) (fun c_55 => ?_)
                  · skip
                    exact absurd c_55 (by decide)
                  · skip
                    refine lv_iload_n hxx hbb dX6_next_111 rfl (lv_at hl 2 rfl) ?_
                    refine lv_bipush (v := nI 46) hxx hbb dX6_next_112 (by decide) ?_
                    refine zcmp_ne (tgt := 119) S (by omega) (by omega) dX6_next_114 (by decide) (fun c_56 => ?_) (fun c_56 => ?_)
                    · skip
                      refine lv_iload_n hxx hbb dX6_next_119 rfl (lv_at hl 2 rfl) ?_
                      refine lv_bipush (v := nI 91) hxx hbb dX6_next_120 (by decide) ?_
                      refine zcmp_ne (tgt := 127) S (by omega) (by omega) dX6_next_122 (by decide) (fun c_57 => ?_) (fun c_57 => ?_)
                      · skip
                        refine lv_iload_n hxx hbb dX6_next_127 rfl (lv_at hl 2 rfl) ?_
                        refine lv_bipush (v := nI 40) hxx hbb dX6_next_128 (by decide) ?_
                        refine zcmp_ne (tgt := 145) S (by omega) (by omega) dX6_next_130 (by decide) (fun c_58 => ?_) (fun c_58 => ?_)
                        · skip
                          refine lv_iload_n hxx hbb dX6_next_145 rfl (lv_at hl 1 rfl) ?_
                          refine zif_ne (tgt := 151) S (by omega) dX6_next_146 (by decide) (fun c_59 => ?_) (fun c_59 => ?_)
                          · skip
                            refine lv_iload_n hxx hbb dX6_next_151 rfl (lv_at hl 2 rfl) ?_
                            refine lv_bipush (v := nI 42) hxx hbb dX6_next_152 (by decide) ?_
                            refine zcmp_eq (tgt := 169) S (by omega) (by omega) dX6_next_154 (by decide) (fun c_60 => ?_) (fun c_60 => ?_)
                            · skip
                              refine lv_iconst (v := nI 1) hxx hbb dX6_next_169 (by decide) ?_
                              exact hret _ _ _ _ _ _ dX6_next_170 (rfl) hP hS (Or.inl ⟨1, by first | (exfalso; omega) | (unfold nx; (repeat (first | rw [if_pos (by omega)] | rw [if_neg (by omega)]))), rfl, rfl⟩)
                            · skip
                              refine lv_iload_n hxx hbb dX6_next_157 rfl (lv_at hl 2 rfl) ?_
                              refine lv_bipush (v := nI 43) hxx hbb dX6_next_158 (by decide) ?_
                              refine zcmp_eq (tgt := 169) S (by omega) (by omega) dX6_next_160 (by decide) (fun c_61 => ?_) (fun c_61 => ?_)
                              · skip
                                refine lv_iconst (v := nI 1) hxx hbb dX6_next_169 (by decide) ?_
                                exact hret _ _ _ _ _ _ dX6_next_170 (rfl) hP hS (Or.inl ⟨1, by first | (exfalso; omega) | (unfold nx; (repeat (first | rw [if_pos (by omega)] | rw [if_neg (by omega)]))), rfl, rfl⟩)
                              · skip
                                refine lv_iload_n hxx hbb dX6_next_163 rfl (lv_at hl 2 rfl) ?_
                                refine lv_bipush (v := nI 63) hxx hbb dX6_next_164 (by decide) ?_
                                refine zcmp_ne (tgt := 171) S (by omega) (by omega) dX6_next_166 (by decide) (fun c_62 => ?_) (fun c_62 => ?_)
                                · skip
                                  refine lv_iload_n hxx hbb dX6_next_171 rfl (lv_at hl 2 rfl) ?_
                                  refine lv_bipush (v := nI 60) hxx hbb dX6_next_172 (by decide) ?_
                                  refine zcmp_ne (tgt := 181) S (by omega) (by omega) dX6_next_174 (by decide) (fun c_63 => ?_) (fun c_63 => ?_)
                                  · skip
                                    refine lv_iload_n hxx hbb dX6_next_181 rfl (lv_at hl 2 rfl) ?_
                                    refine lv_bipush (v := nI 124) hxx hbb dX6_next_182 (by decide) ?_
                                    refine zcmp_ne (tgt := 191) S (by omega) (by omega) dX6_next_184 (by decide) (fun c_64 => ?_) (fun c_64 => ?_)
                                    · skip
                                      refine lv_iload_n hxx hbb dX6_next_191 rfl (lv_at hl 2 rfl) ?_
                                      refine lv_bipush (v := nI 41) hxx hbb dX6_next_192 (by decide) ?_
                                      refine zcmp_ne (tgt := 205) S (by omega) (by omega) dX6_next_194 (by decide) (fun c_65 => ?_) (fun c_65 => ?_)
                                      · skip
                                        refine lv_iconst (v := (-1)) hxx hbb dX6_next_205 (by decide) ?_
                                        exact hret _ _ _ _ _ _ dX6_next_206 (rfl) hP hS (Or.inr ⟨by first | (exfalso; omega) | (unfold nx; (repeat (first | rw [if_pos (by omega)] | rw [if_neg (by omega)]))), rfl, rfl⟩)
                                      · skip
                                        refine lv_iload_n hxx hbb dX6_next_197 rfl (lv_at hl 3 rfl) ?_
                                        refine zif_le (tgt := 205) S (by omega) dX6_next_198 (by decide) (fun c_66 => ?_) (fun c_66 => ?_)
                                        · skip
                                          refine lv_iconst (v := (-1)) hxx hbb dX6_next_205 (by decide) ?_
                                          exact hret _ _ _ _ _ _ dX6_next_206 (rfl) hP hS (Or.inr ⟨by first | (exfalso; omega) | (unfold nx; (repeat (first | rw [if_pos (by omega)] | rw [if_neg (by omega)]))), rfl, rfl⟩)
                                        · skip
                                          refine lv_iconst (v := nI 1) hxx hbb dX6_next_201 (by decide) ?_
                                          refine lv_goto (tgt := 206) hxx hbb dX6_next_202 (by decide) ?_
                                          exact hret _ _ _ _ _ _ dX6_next_206 (rfl) hP hS (Or.inl ⟨1, by first | (exfalso; omega) | (unfold nx; (repeat (first | rw [if_pos (by omega)] | rw [if_neg (by omega)]))), rfl, rfl⟩)
                                    · skip
                                      refine lv_iconst (v := nI 0) hxx hbb dX6_next_187 (by decide) ?_
                                      refine lv_goto (tgt := 206) hxx hbb dX6_next_188 (by decide) ?_
                                      exact hret _ _ _ _ _ _ dX6_next_206 (rfl) hP hS (Or.inl ⟨0, by first | (exfalso; omega) | (unfold nx; (repeat (first | rw [if_pos (by omega)] | rw [if_neg (by omega)]))), rfl, rfl⟩)
                                  · skip
                                    refine lv_iconst (v := nI 5) hxx hbb dX6_next_177 (by decide) ?_
                                    refine lv_goto (tgt := 206) hxx hbb dX6_next_178 (by decide) ?_
                                    exact hret _ _ _ _ _ _ dX6_next_206 (rfl) hP hS (Or.inl ⟨5, by first | (exfalso; omega) | (unfold nx; (repeat (first | rw [if_pos (by omega)] | rw [if_neg (by omega)]))), rfl, rfl⟩)
                                · skip
                                  refine lv_iconst (v := nI 1) hxx hbb dX6_next_169 (by decide) ?_
                                  exact hret _ _ _ _ _ _ dX6_next_170 (rfl) hP hS (Or.inl ⟨1, by first | (exfalso; omega) | (unfold nx; (repeat (first | rw [if_pos (by omega)] | rw [if_neg (by omega)]))), rfl, rfl⟩)
                          · skip
                            refine lv_iconst (v := (-1)) hxx hbb dX6_next_149 (by decide) ?_
                            exact hret _ _ _ _ _ _ dX6_next_150 (rfl) hP hS (Or.inr ⟨by first | (exfalso; omega) | (unfold nx; (repeat (first | rw [if_pos (by omega)] | rw [if_neg (by omega)]))), rfl, rfl⟩)
                        · skip
                          refine lv_iload_n hxx hbb dX6_next_133 rfl (lv_at hl 3 rfl) ?_
                          refine lv_bipush (v := nI 6) hxx hbb dX6_next_134 (by decide) ?_
                          refine zcmp_ge (tgt := 143) S (by omega) (by omega) dX6_next_136 (by decide) (fun c_67 => ?_) (fun c_67 => ?_)
                          · skip
                            refine lv_iconst (v := (-1)) hxx hbb dX6_next_143 (by decide) ?_
                            exact hret _ _ _ _ _ _ dX6_next_144 (rfl) hP hS (Or.inr ⟨by first | (exfalso; omega) | (unfold nx; (repeat (first | rw [if_pos (by omega)] | rw [if_neg (by omega)]))), rfl, rfl⟩)
                          · skip
                            refine lv_iconst (v := nI 0) hxx hbb dX6_next_139 (by decide) ?_
                            refine lv_goto (tgt := 144) hxx hbb dX6_next_140 (by decide) ?_
                            exact hret _ _ _ _ _ _ dX6_next_144 (rfl) hP hS (Or.inl ⟨0, by first | (exfalso; omega) | (unfold nx; (repeat (first | rw [if_pos (by omega)] | rw [if_neg (by omega)]))), rfl, rfl⟩)
                      · skip
                        refine lv_iconst (v := nI 2) hxx hbb dX6_next_125 (by decide) ?_
                        exact hret _ _ _ _ _ _ dX6_next_126 (rfl) hP hS (Or.inl ⟨2, by first | (exfalso; omega) | (unfold nx; (repeat (first | rw [if_pos (by omega)] | rw [if_neg (by omega)]))), rfl, rfl⟩)
                    · skip
                      refine lv_iconst (v := nI 1) hxx hbb dX6_next_117 (by decide) ?_
                      exact hret _ _ _ _ _ _ dX6_next_118 (rfl) hP hS (Or.inl ⟨1, by first | (exfalso; omega) | (unfold nx; (repeat (first | rw [if_pos (by omega)] | rw [if_neg (by omega)]))), rfl, rfl⟩)
              · skip
                exact absurd c_49 (by decide)
          · skip
            refine lv_iload_n hxx hbb dX6_next_81 rfl (lv_at hl 0 rfl) ?_
            refine zif_eq (tgt := 90) S (by omega) dX6_next_82 (by decide) (fun c_68 => ?_) (fun c_68 => ?_)
            · skip
              refine lv_iconst (v := (-1)) hxx hbb dX6_next_90 (by decide) ?_
              exact hret _ _ _ _ _ _ dX6_next_91 (rfl) hP hS (Or.inr ⟨by first | (exfalso; omega) | (unfold nx; (repeat (first | rw [if_pos (by omega)] | rw [if_neg (by omega)]))), rfl, rfl⟩)
            · skip
              exact absurd c_68 (by decide)
        · skip
          refine lv_iload_n hxx hbb dX6_next_64 rfl (lv_at hl 1 rfl) ?_
          refine lv_bipush (v := nI 57) hxx hbb dX6_next_65 (by decide) ?_
          refine zcmp_gt (tgt := 74) S (by omega) (by omega) dX6_next_67 (by decide) (fun c_69 => ?_) (fun c_69 => ?_)
          · skip
            refine lv_iconst (v := nI 0) hxx hbb dX6_next_74 (by decide) ?_
            refine lv_istore_n (lv' := [(3, .int (nI 0)), (0, .int (nI sx)), (1, .int (nI cx)), (2, .int (nI dx))]) hxx hbb dX6_next_75 rfl hl (by decide) rfl (fun ls hl => ?_)
            refine lv_iload_n hxx hbb dX6_next_76 rfl (lv_at hl 1 rfl) ?_
            refine lv_iconst (v := nI 5) hxx hbb dX6_next_77 (by decide) ?_
            refine zcmp_ne (tgt := 92) S (by omega) (by omega) dX6_next_78 (by decide) (fun c_70 => ?_) (fun c_70 => ?_)
            · skip
              refine lv_iload_n hxx hbb dX6_next_92 rfl (lv_at hl 1 rfl) ?_
              refine lv_bipush (v := nI 6) hxx hbb dX6_next_93 (by decide) ?_
              refine zcmp_ne (tgt := 104) S (by omega) (by omega) dX6_next_95 (by decide) (fun c_71 => ?_) (fun c_71 => ?_)
              · skip
                refine lv_iload_n hxx hbb dX6_next_104 rfl (lv_at hl 2 rfl) ?_
                refine ZI.callS S hK hP hS hB (kX6_small l G A Y cx (by omega)) zwX6_71 zdX6_small rfl ⟨Nat.le_trans (by decide) hfr, Nat.le_trans (by decide) hlo⟩ rfl (Nat.le_of_ble_eq_true rfl) hl.1 dX6_next_105 ⟨Nat.zero_le _, Nat.zero_le _⟩ (fun r_72 Y_73 H locs hq_74 hP hS => ?_)
                rcases hq_74 with ⟨hb_75, hr9, hY9⟩ | ⟨hb_75, hr9, hY9⟩
                · skip
                  subst hr9; rw [hY9] at hP
                  refine zif_ne (tgt := 117) S (by omega) dX6_next_108 (by decide) (fun c_76 => ?_) (fun c_76 => ?_)
                  · skip
                    refine lv_iconst (v := nI 1) hxx hbb dX6_next_117 (by decide) ?_
                    exact hret _ _ _ _ _ _ dX6_next_118 (rfl) hP hS (Or.inl ⟨1, by first | (exfalso; omega) | (unfold nx; (repeat (first | rw [if_pos (by omega)] | rw [if_neg (by omega)]))), rfl, rfl⟩)
                  · skip
                    exact absurd c_76 (by decide)
                · skip
                  subst hr9; rw [hY9] at hP
                  refine zif_ne (tgt := 117) S (by omega) dX6_next_108 (by decide) (fun c_77 => ?_) (fun c_77 => ?_)
                  · skip
                    exact absurd c_77 (by decide)
                  · skip
                    refine lv_iload_n hxx hbb dX6_next_111 rfl (lv_at hl 2 rfl) ?_
                    refine lv_bipush (v := nI 46) hxx hbb dX6_next_112 (by decide) ?_
                    refine zcmp_ne (tgt := 119) S (by omega) (by omega) dX6_next_114 (by decide) (fun c_78 => ?_) (fun c_78 => ?_)
                    · skip
                      refine lv_iload_n hxx hbb dX6_next_119 rfl (lv_at hl 2 rfl) ?_
                      refine lv_bipush (v := nI 91) hxx hbb dX6_next_120 (by decide) ?_
                      refine zcmp_ne (tgt := 127) S (by omega) (by omega) dX6_next_122 (by decide) (fun c_79 => ?_) (fun c_79 => ?_)
                      · skip
                        refine lv_iload_n hxx hbb dX6_next_127 rfl (lv_at hl 2 rfl) ?_
                        refine lv_bipush (v := nI 40) hxx hbb dX6_next_128 (by decide) ?_
                        refine zcmp_ne (tgt := 145) S (by omega) (by omega) dX6_next_130 (by decide) (fun c_80 => ?_) (fun c_80 => ?_)
                        · skip
                          refine lv_iload_n hxx hbb dX6_next_145 rfl (lv_at hl 1 rfl) ?_
                          refine zif_ne (tgt := 151) S (by omega) dX6_next_146 (by decide) (fun c_81 => ?_) (fun c_81 => ?_)
                          · skip
                            refine lv_iload_n hxx hbb dX6_next_151 rfl (lv_at hl 2 rfl) ?_
                            refine lv_bipush (v := nI 42) hxx hbb dX6_next_152 (by decide) ?_
                            refine zcmp_eq (tgt := 169) S (by omega) (by omega) dX6_next_154 (by decide) (fun c_82 => ?_) (fun c_82 => ?_)
                            · skip
                              refine lv_iconst (v := nI 1) hxx hbb dX6_next_169 (by decide) ?_
                              exact hret _ _ _ _ _ _ dX6_next_170 (rfl) hP hS (Or.inl ⟨1, by first | (exfalso; omega) | (unfold nx; (repeat (first | rw [if_pos (by omega)] | rw [if_neg (by omega)]))), rfl, rfl⟩)
                            · skip
                              refine lv_iload_n hxx hbb dX6_next_157 rfl (lv_at hl 2 rfl) ?_
                              refine lv_bipush (v := nI 43) hxx hbb dX6_next_158 (by decide) ?_
                              refine zcmp_eq (tgt := 169) S (by omega) (by omega) dX6_next_160 (by decide) (fun c_83 => ?_) (fun c_83 => ?_)
                              · skip
                                refine lv_iconst (v := nI 1) hxx hbb dX6_next_169 (by decide) ?_
                                exact hret _ _ _ _ _ _ dX6_next_170 (rfl) hP hS (Or.inl ⟨1, by first | (exfalso; omega) | (unfold nx; (repeat (first | rw [if_pos (by omega)] | rw [if_neg (by omega)]))), rfl, rfl⟩)
                              · skip
                                refine lv_iload_n hxx hbb dX6_next_163 rfl (lv_at hl 2 rfl) ?_
                                refine lv_bipush (v := nI 63) hxx hbb dX6_next_164 (by decide) ?_
                                refine zcmp_ne (tgt := 171) S (by omega) (by omega) dX6_next_166 (by decide) (fun c_84 => ?_) (fun c_84 => ?_)
                                · skip
                                  refine lv_iload_n hxx hbb dX6_next_171 rfl (lv_at hl 2 rfl) ?_
                                  refine lv_bipush (v := nI 60) hxx hbb dX6_next_172 (by decide) ?_
                                  refine zcmp_ne (tgt := 181) S (by omega) (by omega) dX6_next_174 (by decide) (fun c_85 => ?_) (fun c_85 => ?_)
                                  · skip
                                    refine lv_iload_n hxx hbb dX6_next_181 rfl (lv_at hl 2 rfl) ?_
                                    refine lv_bipush (v := nI 124) hxx hbb dX6_next_182 (by decide) ?_
                                    refine zcmp_ne (tgt := 191) S (by omega) (by omega) dX6_next_184 (by decide) (fun c_86 => ?_) (fun c_86 => ?_)
                                    · skip
                                      refine lv_iload_n hxx hbb dX6_next_191 rfl (lv_at hl 2 rfl) ?_
                                      refine lv_bipush (v := nI 41) hxx hbb dX6_next_192 (by decide) ?_
                                      refine zcmp_ne (tgt := 205) S (by omega) (by omega) dX6_next_194 (by decide) (fun c_87 => ?_) (fun c_87 => ?_)
                                      · skip
                                        refine lv_iconst (v := (-1)) hxx hbb dX6_next_205 (by decide) ?_
                                        exact hret _ _ _ _ _ _ dX6_next_206 (rfl) hP hS (Or.inr ⟨by first | (exfalso; omega) | (unfold nx; (repeat (first | rw [if_pos (by omega)] | rw [if_neg (by omega)]))), rfl, rfl⟩)
                                      · skip
                                        refine lv_iload_n hxx hbb dX6_next_197 rfl (lv_at hl 3 rfl) ?_
                                        refine zif_le (tgt := 205) S (by omega) dX6_next_198 (by decide) (fun c_88 => ?_) (fun c_88 => ?_)
                                        · skip
                                          refine lv_iconst (v := (-1)) hxx hbb dX6_next_205 (by decide) ?_
                                          exact hret _ _ _ _ _ _ dX6_next_206 (rfl) hP hS (Or.inr ⟨by first | (exfalso; omega) | (unfold nx; (repeat (first | rw [if_pos (by omega)] | rw [if_neg (by omega)]))), rfl, rfl⟩)
                                        · skip
                                          refine lv_iconst (v := nI 1) hxx hbb dX6_next_201 (by decide) ?_
                                          refine lv_goto (tgt := 206) hxx hbb dX6_next_202 (by decide) ?_
                                          exact hret _ _ _ _ _ _ dX6_next_206 (rfl) hP hS (Or.inl ⟨1, by first | (exfalso; omega) | (unfold nx; (repeat (first | rw [if_pos (by omega)] | rw [if_neg (by omega)]))), rfl, rfl⟩)
                                    · skip
                                      refine lv_iconst (v := nI 0) hxx hbb dX6_next_187 (by decide) ?_
                                      refine lv_goto (tgt := 206) hxx hbb dX6_next_188 (by decide) ?_
                                      exact hret _ _ _ _ _ _ dX6_next_206 (rfl) hP hS (Or.inl ⟨0, by first | (exfalso; omega) | (unfold nx; (repeat (first | rw [if_pos (by omega)] | rw [if_neg (by omega)]))), rfl, rfl⟩)
                                  · skip
                                    refine lv_iconst (v := nI 5) hxx hbb dX6_next_177 (by decide) ?_
                                    refine lv_goto (tgt := 206) hxx hbb dX6_next_178 (by decide) ?_
                                    exact hret _ _ _ _ _ _ dX6_next_206 (rfl) hP hS (Or.inl ⟨5, by first | (exfalso; omega) | (unfold nx; (repeat (first | rw [if_pos (by omega)] | rw [if_neg (by omega)]))), rfl, rfl⟩)
                                · skip
                                  refine lv_iconst (v := nI 1) hxx hbb dX6_next_169 (by decide) ?_
                                  exact hret _ _ _ _ _ _ dX6_next_170 (rfl) hP hS (Or.inl ⟨1, by first | (exfalso; omega) | (unfold nx; (repeat (first | rw [if_pos (by omega)] | rw [if_neg (by omega)]))), rfl, rfl⟩)
                          · skip
                            refine lv_iconst (v := (-1)) hxx hbb dX6_next_149 (by decide) ?_
                            exact hret _ _ _ _ _ _ dX6_next_150 (rfl) hP hS (Or.inr ⟨by first | (exfalso; omega) | (unfold nx; (repeat (first | rw [if_pos (by omega)] | rw [if_neg (by omega)]))), rfl, rfl⟩)
                        · skip
                          refine lv_iload_n hxx hbb dX6_next_133 rfl (lv_at hl 3 rfl) ?_
                          refine lv_bipush (v := nI 6) hxx hbb dX6_next_134 (by decide) ?_
                          refine zcmp_ge (tgt := 143) S (by omega) (by omega) dX6_next_136 (by decide) (fun c_89 => ?_) (fun c_89 => ?_)
                          · skip
                            refine lv_iconst (v := (-1)) hxx hbb dX6_next_143 (by decide) ?_
                            exact hret _ _ _ _ _ _ dX6_next_144 (rfl) hP hS (Or.inr ⟨by first | (exfalso; omega) | (unfold nx; (repeat (first | rw [if_pos (by omega)] | rw [if_neg (by omega)]))), rfl, rfl⟩)
                          · skip
                            refine lv_iconst (v := nI 0) hxx hbb dX6_next_139 (by decide) ?_
                            refine lv_goto (tgt := 144) hxx hbb dX6_next_140 (by decide) ?_
                            exact hret _ _ _ _ _ _ dX6_next_144 (rfl) hP hS (Or.inl ⟨0, by first | (exfalso; omega) | (unfold nx; (repeat (first | rw [if_pos (by omega)] | rw [if_neg (by omega)]))), rfl, rfl⟩)
                      · skip
                        refine lv_iconst (v := nI 2) hxx hbb dX6_next_125 (by decide) ?_
                        exact hret _ _ _ _ _ _ dX6_next_126 (rfl) hP hS (Or.inl ⟨2, by first | (exfalso; omega) | (unfold nx; (repeat (first | rw [if_pos (by omega)] | rw [if_neg (by omega)]))), rfl, rfl⟩)
                    · skip
                      refine lv_iconst (v := nI 1) hxx hbb dX6_next_117 (by decide) ?_
                      exact hret _ _ _ _ _ _ dX6_next_118 (rfl) hP hS (Or.inl ⟨1, by first | (exfalso; omega) | (unfold nx; (repeat (first | rw [if_pos (by omega)] | rw [if_neg (by omega)]))), rfl, rfl⟩)
              · skip
                refine lv_iload_n hxx hbb dX6_next_98 rfl (lv_at hl 0 rfl) ?_
                refine zif_eq (tgt := 104) S (by omega) dX6_next_99 (by decide) (fun c_90 => ?_) (fun c_90 => ?_)
                · skip
                  refine lv_iload_n hxx hbb dX6_next_104 rfl (lv_at hl 2 rfl) ?_
                  refine ZI.callS S hK hP hS hB (kX6_small l G A Y cx (by omega)) zwX6_71 zdX6_small rfl ⟨Nat.le_trans (by decide) hfr, Nat.le_trans (by decide) hlo⟩ rfl (Nat.le_of_ble_eq_true rfl) hl.1 dX6_next_105 ⟨Nat.zero_le _, Nat.zero_le _⟩ (fun r_91 Y_92 H locs hq_93 hP hS => ?_)
                  rcases hq_93 with ⟨hb_94, hr9, hY9⟩ | ⟨hb_94, hr9, hY9⟩
                  · skip
                    subst hr9; rw [hY9] at hP
                    refine zif_ne (tgt := 117) S (by omega) dX6_next_108 (by decide) (fun c_95 => ?_) (fun c_95 => ?_)
                    · skip
                      refine lv_iconst (v := nI 1) hxx hbb dX6_next_117 (by decide) ?_
                      exact hret _ _ _ _ _ _ dX6_next_118 (rfl) hP hS (Or.inl ⟨1, by first | (exfalso; omega) | (unfold nx; (repeat (first | rw [if_pos (by omega)] | rw [if_neg (by omega)]))), rfl, rfl⟩)
                    · skip
                      exact absurd c_95 (by decide)
                  · skip
                    subst hr9; rw [hY9] at hP
                    refine zif_ne (tgt := 117) S (by omega) dX6_next_108 (by decide) (fun c_96 => ?_) (fun c_96 => ?_)
                    · skip
                      exact absurd c_96 (by decide)
                    · skip
                      refine lv_iload_n hxx hbb dX6_next_111 rfl (lv_at hl 2 rfl) ?_
                      refine lv_bipush (v := nI 46) hxx hbb dX6_next_112 (by decide) ?_
                      refine zcmp_ne (tgt := 119) S (by omega) (by omega) dX6_next_114 (by decide) (fun c_97 => ?_) (fun c_97 => ?_)
                      · skip
                        refine lv_iload_n hxx hbb dX6_next_119 rfl (lv_at hl 2 rfl) ?_
                        refine lv_bipush (v := nI 91) hxx hbb dX6_next_120 (by decide) ?_
                        refine zcmp_ne (tgt := 127) S (by omega) (by omega) dX6_next_122 (by decide) (fun c_98 => ?_) (fun c_98 => ?_)
                        · skip
                          refine lv_iload_n hxx hbb dX6_next_127 rfl (lv_at hl 2 rfl) ?_
                          refine lv_bipush (v := nI 40) hxx hbb dX6_next_128 (by decide) ?_
                          refine zcmp_ne (tgt := 145) S (by omega) (by omega) dX6_next_130 (by decide) (fun c_99 => ?_) (fun c_99 => ?_)
                          · skip
                            refine lv_iload_n hxx hbb dX6_next_145 rfl (lv_at hl 1 rfl) ?_
                            refine zif_ne (tgt := 151) S (by omega) dX6_next_146 (by decide) (fun c_100 => ?_) (fun c_100 => ?_)
                            · skip
                              refine lv_iload_n hxx hbb dX6_next_151 rfl (lv_at hl 2 rfl) ?_
                              refine lv_bipush (v := nI 42) hxx hbb dX6_next_152 (by decide) ?_
                              refine zcmp_eq (tgt := 169) S (by omega) (by omega) dX6_next_154 (by decide) (fun c_101 => ?_) (fun c_101 => ?_)
                              · skip
                                refine lv_iconst (v := nI 1) hxx hbb dX6_next_169 (by decide) ?_
                                exact hret _ _ _ _ _ _ dX6_next_170 (rfl) hP hS (Or.inl ⟨1, by first | (exfalso; omega) | (unfold nx; (repeat (first | rw [if_pos (by omega)] | rw [if_neg (by omega)]))), rfl, rfl⟩)
                              · skip
                                refine lv_iload_n hxx hbb dX6_next_157 rfl (lv_at hl 2 rfl) ?_
                                refine lv_bipush (v := nI 43) hxx hbb dX6_next_158 (by decide) ?_
                                refine zcmp_eq (tgt := 169) S (by omega) (by omega) dX6_next_160 (by decide) (fun c_102 => ?_) (fun c_102 => ?_)
                                · skip
                                  refine lv_iconst (v := nI 1) hxx hbb dX6_next_169 (by decide) ?_
                                  exact hret _ _ _ _ _ _ dX6_next_170 (rfl) hP hS (Or.inl ⟨1, by first | (exfalso; omega) | (unfold nx; (repeat (first | rw [if_pos (by omega)] | rw [if_neg (by omega)]))), rfl, rfl⟩)
                                · skip
                                  refine lv_iload_n hxx hbb dX6_next_163 rfl (lv_at hl 2 rfl) ?_
                                  refine lv_bipush (v := nI 63) hxx hbb dX6_next_164 (by decide) ?_
                                  refine zcmp_ne (tgt := 171) S (by omega) (by omega) dX6_next_166 (by decide) (fun c_103 => ?_) (fun c_103 => ?_)
                                  · skip
                                    refine lv_iload_n hxx hbb dX6_next_171 rfl (lv_at hl 2 rfl) ?_
                                    refine lv_bipush (v := nI 60) hxx hbb dX6_next_172 (by decide) ?_
                                    refine zcmp_ne (tgt := 181) S (by omega) (by omega) dX6_next_174 (by decide) (fun c_104 => ?_) (fun c_104 => ?_)
                                    · skip
                                      refine lv_iload_n hxx hbb dX6_next_181 rfl (lv_at hl 2 rfl) ?_
                                      refine lv_bipush (v := nI 124) hxx hbb dX6_next_182 (by decide) ?_
                                      refine zcmp_ne (tgt := 191) S (by omega) (by omega) dX6_next_184 (by decide) (fun c_105 => ?_) (fun c_105 => ?_)
                                      · skip
                                        refine lv_iload_n hxx hbb dX6_next_191 rfl (lv_at hl 2 rfl) ?_
                                        refine lv_bipush (v := nI 41) hxx hbb dX6_next_192 (by decide) ?_
                                        refine zcmp_ne (tgt := 205) S (by omega) (by omega) dX6_next_194 (by decide) (fun c_106 => ?_) (fun c_106 => ?_)
                                        · skip
                                          refine lv_iconst (v := (-1)) hxx hbb dX6_next_205 (by decide) ?_
                                          exact hret _ _ _ _ _ _ dX6_next_206 (rfl) hP hS (Or.inr ⟨by first | (exfalso; omega) | (unfold nx; (repeat (first | rw [if_pos (by omega)] | rw [if_neg (by omega)]))), rfl, rfl⟩)
                                        · skip
                                          refine lv_iload_n hxx hbb dX6_next_197 rfl (lv_at hl 3 rfl) ?_
                                          refine zif_le (tgt := 205) S (by omega) dX6_next_198 (by decide) (fun c_107 => ?_) (fun c_107 => ?_)
                                          · skip
                                            refine lv_iconst (v := (-1)) hxx hbb dX6_next_205 (by decide) ?_
                                            exact hret _ _ _ _ _ _ dX6_next_206 (rfl) hP hS (Or.inr ⟨by first | (exfalso; omega) | (unfold nx; (repeat (first | rw [if_pos (by omega)] | rw [if_neg (by omega)]))), rfl, rfl⟩)
                                          · skip
                                            refine lv_iconst (v := nI 1) hxx hbb dX6_next_201 (by decide) ?_
                                            refine lv_goto (tgt := 206) hxx hbb dX6_next_202 (by decide) ?_
                                            exact hret _ _ _ _ _ _ dX6_next_206 (rfl) hP hS (Or.inl ⟨1, by first | (exfalso; omega) | (unfold nx; (repeat (first | rw [if_pos (by omega)] | rw [if_neg (by omega)]))), rfl, rfl⟩)
                                      · skip
                                        refine lv_iconst (v := nI 0) hxx hbb dX6_next_187 (by decide) ?_
                                        refine lv_goto (tgt := 206) hxx hbb dX6_next_188 (by decide) ?_
                                        exact hret _ _ _ _ _ _ dX6_next_206 (rfl) hP hS (Or.inl ⟨0, by first | (exfalso; omega) | (unfold nx; (repeat (first | rw [if_pos (by omega)] | rw [if_neg (by omega)]))), rfl, rfl⟩)
                                    · skip
                                      refine lv_iconst (v := nI 5) hxx hbb dX6_next_177 (by decide) ?_
                                      refine lv_goto (tgt := 206) hxx hbb dX6_next_178 (by decide) ?_
                                      exact hret _ _ _ _ _ _ dX6_next_206 (rfl) hP hS (Or.inl ⟨5, by first | (exfalso; omega) | (unfold nx; (repeat (first | rw [if_pos (by omega)] | rw [if_neg (by omega)]))), rfl, rfl⟩)
                                  · skip
                                    refine lv_iconst (v := nI 1) hxx hbb dX6_next_169 (by decide) ?_
                                    exact hret _ _ _ _ _ _ dX6_next_170 (rfl) hP hS (Or.inl ⟨1, by first | (exfalso; omega) | (unfold nx; (repeat (first | rw [if_pos (by omega)] | rw [if_neg (by omega)]))), rfl, rfl⟩)
                            · skip
                              refine lv_iconst (v := (-1)) hxx hbb dX6_next_149 (by decide) ?_
                              exact hret _ _ _ _ _ _ dX6_next_150 (rfl) hP hS (Or.inr ⟨by first | (exfalso; omega) | (unfold nx; (repeat (first | rw [if_pos (by omega)] | rw [if_neg (by omega)]))), rfl, rfl⟩)
                          · skip
                            refine lv_iload_n hxx hbb dX6_next_133 rfl (lv_at hl 3 rfl) ?_
                            refine lv_bipush (v := nI 6) hxx hbb dX6_next_134 (by decide) ?_
                            refine zcmp_ge (tgt := 143) S (by omega) (by omega) dX6_next_136 (by decide) (fun c_108 => ?_) (fun c_108 => ?_)
                            · skip
                              refine lv_iconst (v := (-1)) hxx hbb dX6_next_143 (by decide) ?_
                              exact hret _ _ _ _ _ _ dX6_next_144 (rfl) hP hS (Or.inr ⟨by first | (exfalso; omega) | (unfold nx; (repeat (first | rw [if_pos (by omega)] | rw [if_neg (by omega)]))), rfl, rfl⟩)
                            · skip
                              refine lv_iconst (v := nI 0) hxx hbb dX6_next_139 (by decide) ?_
                              refine lv_goto (tgt := 144) hxx hbb dX6_next_140 (by decide) ?_
                              exact hret _ _ _ _ _ _ dX6_next_144 (rfl) hP hS (Or.inl ⟨0, by first | (exfalso; omega) | (unfold nx; (repeat (first | rw [if_pos (by omega)] | rw [if_neg (by omega)]))), rfl, rfl⟩)
                        · skip
                          refine lv_iconst (v := nI 2) hxx hbb dX6_next_125 (by decide) ?_
                          exact hret _ _ _ _ _ _ dX6_next_126 (rfl) hP hS (Or.inl ⟨2, by first | (exfalso; omega) | (unfold nx; (repeat (first | rw [if_pos (by omega)] | rw [if_neg (by omega)]))), rfl, rfl⟩)
                      · skip
                        refine lv_iconst (v := nI 1) hxx hbb dX6_next_117 (by decide) ?_
                        exact hret _ _ _ _ _ _ dX6_next_118 (rfl) hP hS (Or.inl ⟨1, by first | (exfalso; omega) | (unfold nx; (repeat (first | rw [if_pos (by omega)] | rw [if_neg (by omega)]))), rfl, rfl⟩)
                · skip
                  exact absurd c_90 (by decide)
            · skip
              refine lv_iload_n hxx hbb dX6_next_81 rfl (lv_at hl 0 rfl) ?_
              refine zif_eq (tgt := 90) S (by omega) dX6_next_82 (by decide) (fun c_109 => ?_) (fun c_109 => ?_)
              · skip
                refine lv_iconst (v := (-1)) hxx hbb dX6_next_90 (by decide) ?_
                exact hret _ _ _ _ _ _ dX6_next_91 (rfl) hP hS (Or.inr ⟨by first | (exfalso; omega) | (unfold nx; (repeat (first | rw [if_pos (by omega)] | rw [if_neg (by omega)]))), rfl, rfl⟩)
              · skip
                exact absurd c_109 (by decide)
          · skip
            refine lv_iconst (v := nI 1) hxx hbb dX6_next_70 (by decide) ?_
            refine lv_goto (tgt := 75) hxx hbb dX6_next_71 (by decide) ?_
            refine lv_istore_n (lv' := [(3, .int (nI 1)), (0, .int (nI sx)), (1, .int (nI cx)), (2, .int (nI dx))]) hxx hbb dX6_next_75 rfl hl (by decide) rfl (fun ls hl => ?_)
            refine lv_iload_n hxx hbb dX6_next_76 rfl (lv_at hl 1 rfl) ?_
            refine lv_iconst (v := nI 5) hxx hbb dX6_next_77 (by decide) ?_
            refine zcmp_ne (tgt := 92) S (by omega) (by omega) dX6_next_78 (by decide) (fun c_110 => ?_) (fun c_110 => ?_)
            · skip
              refine lv_iload_n hxx hbb dX6_next_92 rfl (lv_at hl 1 rfl) ?_
              refine lv_bipush (v := nI 6) hxx hbb dX6_next_93 (by decide) ?_
              refine zcmp_ne (tgt := 104) S (by omega) (by omega) dX6_next_95 (by decide) (fun c_111 => ?_) (fun c_111 => ?_)
              · skip
                refine lv_iload_n hxx hbb dX6_next_104 rfl (lv_at hl 2 rfl) ?_
                refine ZI.callS S hK hP hS hB (kX6_small l G A Y cx (by omega)) zwX6_71 zdX6_small rfl ⟨Nat.le_trans (by decide) hfr, Nat.le_trans (by decide) hlo⟩ rfl (Nat.le_of_ble_eq_true rfl) hl.1 dX6_next_105 ⟨Nat.zero_le _, Nat.zero_le _⟩ (fun r_112 Y_113 H locs hq_114 hP hS => ?_)
                rcases hq_114 with ⟨hb_115, hr9, hY9⟩ | ⟨hb_115, hr9, hY9⟩
                · skip
                  subst hr9; rw [hY9] at hP
                  refine zif_ne (tgt := 117) S (by omega) dX6_next_108 (by decide) (fun c_116 => ?_) (fun c_116 => ?_)
                  · skip
                    refine lv_iconst (v := nI 1) hxx hbb dX6_next_117 (by decide) ?_
                    exact hret _ _ _ _ _ _ dX6_next_118 (rfl) hP hS (Or.inl ⟨1, by first | (exfalso; omega) | (unfold nx; (repeat (first | rw [if_pos (by omega)] | rw [if_neg (by omega)]))), rfl, rfl⟩)
                  · skip
                    exact absurd c_116 (by decide)
                · skip
                  subst hr9; rw [hY9] at hP
                  refine zif_ne (tgt := 117) S (by omega) dX6_next_108 (by decide) (fun c_117 => ?_) (fun c_117 => ?_)
                  · skip
                    exact absurd c_117 (by decide)
                  · skip
                    refine lv_iload_n hxx hbb dX6_next_111 rfl (lv_at hl 2 rfl) ?_
                    refine lv_bipush (v := nI 46) hxx hbb dX6_next_112 (by decide) ?_
                    refine zcmp_ne (tgt := 119) S (by omega) (by omega) dX6_next_114 (by decide) (fun c_118 => ?_) (fun c_118 => ?_)
                    · skip
                      refine lv_iload_n hxx hbb dX6_next_119 rfl (lv_at hl 2 rfl) ?_
                      refine lv_bipush (v := nI 91) hxx hbb dX6_next_120 (by decide) ?_
                      refine zcmp_ne (tgt := 127) S (by omega) (by omega) dX6_next_122 (by decide) (fun c_119 => ?_) (fun c_119 => ?_)
                      · skip
                        refine lv_iload_n hxx hbb dX6_next_127 rfl (lv_at hl 2 rfl) ?_
                        refine lv_bipush (v := nI 40) hxx hbb dX6_next_128 (by decide) ?_
                        refine zcmp_ne (tgt := 145) S (by omega) (by omega) dX6_next_130 (by decide) (fun c_120 => ?_) (fun c_120 => ?_)
                        · skip
                          refine lv_iload_n hxx hbb dX6_next_145 rfl (lv_at hl 1 rfl) ?_
                          refine zif_ne (tgt := 151) S (by omega) dX6_next_146 (by decide) (fun c_121 => ?_) (fun c_121 => ?_)
                          · skip
                            refine lv_iload_n hxx hbb dX6_next_151 rfl (lv_at hl 2 rfl) ?_
                            refine lv_bipush (v := nI 42) hxx hbb dX6_next_152 (by decide) ?_
                            refine zcmp_eq (tgt := 169) S (by omega) (by omega) dX6_next_154 (by decide) (fun c_122 => ?_) (fun c_122 => ?_)
                            · skip
                              refine lv_iconst (v := nI 1) hxx hbb dX6_next_169 (by decide) ?_
                              exact hret _ _ _ _ _ _ dX6_next_170 (rfl) hP hS (Or.inl ⟨1, by first | (exfalso; omega) | (unfold nx; (repeat (first | rw [if_pos (by omega)] | rw [if_neg (by omega)]))), rfl, rfl⟩)
                            · skip
                              refine lv_iload_n hxx hbb dX6_next_157 rfl (lv_at hl 2 rfl) ?_
                              refine lv_bipush (v := nI 43) hxx hbb dX6_next_158 (by decide) ?_
                              refine zcmp_eq (tgt := 169) S (by omega) (by omega) dX6_next_160 (by decide) (fun c_123 => ?_) (fun c_123 => ?_)
                              · skip
                                refine lv_iconst (v := nI 1) hxx hbb dX6_next_169 (by decide) ?_
                                exact hret _ _ _ _ _ _ dX6_next_170 (rfl) hP hS (Or.inl ⟨1, by first | (exfalso; omega) | (unfold nx; (repeat (first | rw [if_pos (by omega)] | rw [if_neg (by omega)]))), rfl, rfl⟩)
                              · skip
                                refine lv_iload_n hxx hbb dX6_next_163 rfl (lv_at hl 2 rfl) ?_
                                refine lv_bipush (v := nI 63) hxx hbb dX6_next_164 (by decide) ?_
                                refine zcmp_ne (tgt := 171) S (by omega) (by omega) dX6_next_166 (by decide) (fun c_124 => ?_) (fun c_124 => ?_)
                                · skip
                                  refine lv_iload_n hxx hbb dX6_next_171 rfl (lv_at hl 2 rfl) ?_
                                  refine lv_bipush (v := nI 60) hxx hbb dX6_next_172 (by decide) ?_
                                  refine zcmp_ne (tgt := 181) S (by omega) (by omega) dX6_next_174 (by decide) (fun c_125 => ?_) (fun c_125 => ?_)
                                  · skip
                                    refine lv_iload_n hxx hbb dX6_next_181 rfl (lv_at hl 2 rfl) ?_
                                    refine lv_bipush (v := nI 124) hxx hbb dX6_next_182 (by decide) ?_
                                    refine zcmp_ne (tgt := 191) S (by omega) (by omega) dX6_next_184 (by decide) (fun c_126 => ?_) (fun c_126 => ?_)
                                    · skip
                                      refine lv_iload_n hxx hbb dX6_next_191 rfl (lv_at hl 2 rfl) ?_
                                      refine lv_bipush (v := nI 41) hxx hbb dX6_next_192 (by decide) ?_
                                      refine zcmp_ne (tgt := 205) S (by omega) (by omega) dX6_next_194 (by decide) (fun c_127 => ?_) (fun c_127 => ?_)
                                      · skip
                                        refine lv_iconst (v := (-1)) hxx hbb dX6_next_205 (by decide) ?_
                                        exact hret _ _ _ _ _ _ dX6_next_206 (rfl) hP hS (Or.inr ⟨by first | (exfalso; omega) | (unfold nx; (repeat (first | rw [if_pos (by omega)] | rw [if_neg (by omega)]))), rfl, rfl⟩)
                                      · skip
                                        refine lv_iload_n hxx hbb dX6_next_197 rfl (lv_at hl 3 rfl) ?_
                                        refine zif_le (tgt := 205) S (by omega) dX6_next_198 (by decide) (fun c_128 => ?_) (fun c_128 => ?_)
                                        · skip
                                          refine lv_iconst (v := (-1)) hxx hbb dX6_next_205 (by decide) ?_
                                          exact hret _ _ _ _ _ _ dX6_next_206 (rfl) hP hS (Or.inr ⟨by first | (exfalso; omega) | (unfold nx; (repeat (first | rw [if_pos (by omega)] | rw [if_neg (by omega)]))), rfl, rfl⟩)
                                        · skip
                                          refine lv_iconst (v := nI 1) hxx hbb dX6_next_201 (by decide) ?_
                                          refine lv_goto (tgt := 206) hxx hbb dX6_next_202 (by decide) ?_
                                          exact hret _ _ _ _ _ _ dX6_next_206 (rfl) hP hS (Or.inl ⟨1, by first | (exfalso; omega) | (unfold nx; (repeat (first | rw [if_pos (by omega)] | rw [if_neg (by omega)]))), rfl, rfl⟩)
                                    · skip
                                      refine lv_iconst (v := nI 0) hxx hbb dX6_next_187 (by decide) ?_
                                      refine lv_goto (tgt := 206) hxx hbb dX6_next_188 (by decide) ?_
                                      exact hret _ _ _ _ _ _ dX6_next_206 (rfl) hP hS (Or.inl ⟨0, by first | (exfalso; omega) | (unfold nx; (repeat (first | rw [if_pos (by omega)] | rw [if_neg (by omega)]))), rfl, rfl⟩)
                                  · skip
                                    refine lv_iconst (v := nI 5) hxx hbb dX6_next_177 (by decide) ?_
                                    refine lv_goto (tgt := 206) hxx hbb dX6_next_178 (by decide) ?_
                                    exact hret _ _ _ _ _ _ dX6_next_206 (rfl) hP hS (Or.inl ⟨5, by first | (exfalso; omega) | (unfold nx; (repeat (first | rw [if_pos (by omega)] | rw [if_neg (by omega)]))), rfl, rfl⟩)
                                · skip
                                  refine lv_iconst (v := nI 1) hxx hbb dX6_next_169 (by decide) ?_
                                  exact hret _ _ _ _ _ _ dX6_next_170 (rfl) hP hS (Or.inl ⟨1, by first | (exfalso; omega) | (unfold nx; (repeat (first | rw [if_pos (by omega)] | rw [if_neg (by omega)]))), rfl, rfl⟩)
                          · skip
                            refine lv_iconst (v := (-1)) hxx hbb dX6_next_149 (by decide) ?_
                            exact hret _ _ _ _ _ _ dX6_next_150 (rfl) hP hS (Or.inr ⟨by first | (exfalso; omega) | (unfold nx; (repeat (first | rw [if_pos (by omega)] | rw [if_neg (by omega)]))), rfl, rfl⟩)
                        · skip
                          refine lv_iload_n hxx hbb dX6_next_133 rfl (lv_at hl 3 rfl) ?_
                          refine lv_bipush (v := nI 6) hxx hbb dX6_next_134 (by decide) ?_
                          refine zcmp_ge (tgt := 143) S (by omega) (by omega) dX6_next_136 (by decide) (fun c_129 => ?_) (fun c_129 => ?_)
                          · skip
                            refine lv_iconst (v := (-1)) hxx hbb dX6_next_143 (by decide) ?_
                            exact hret _ _ _ _ _ _ dX6_next_144 (rfl) hP hS (Or.inr ⟨by first | (exfalso; omega) | (unfold nx; (repeat (first | rw [if_pos (by omega)] | rw [if_neg (by omega)]))), rfl, rfl⟩)
                          · skip
                            refine lv_iconst (v := nI 0) hxx hbb dX6_next_139 (by decide) ?_
                            refine lv_goto (tgt := 144) hxx hbb dX6_next_140 (by decide) ?_
                            exact hret _ _ _ _ _ _ dX6_next_144 (rfl) hP hS (Or.inl ⟨0, by first | (exfalso; omega) | (unfold nx; (repeat (first | rw [if_pos (by omega)] | rw [if_neg (by omega)]))), rfl, rfl⟩)
                      · skip
                        refine lv_iconst (v := nI 2) hxx hbb dX6_next_125 (by decide) ?_
                        exact hret _ _ _ _ _ _ dX6_next_126 (rfl) hP hS (Or.inl ⟨2, by first | (exfalso; omega) | (unfold nx; (repeat (first | rw [if_pos (by omega)] | rw [if_neg (by omega)]))), rfl, rfl⟩)
                    · skip
                      refine lv_iconst (v := nI 1) hxx hbb dX6_next_117 (by decide) ?_
                      exact hret _ _ _ _ _ _ dX6_next_118 (rfl) hP hS (Or.inl ⟨1, by first | (exfalso; omega) | (unfold nx; (repeat (first | rw [if_pos (by omega)] | rw [if_neg (by omega)]))), rfl, rfl⟩)
              · skip
                refine lv_iload_n hxx hbb dX6_next_98 rfl (lv_at hl 0 rfl) ?_
                refine zif_eq (tgt := 104) S (by omega) dX6_next_99 (by decide) (fun c_130 => ?_) (fun c_130 => ?_)
                · skip
                  exact absurd c_130 (by decide)
                · skip
                  refine lv_iconst (v := nI 1) hxx hbb dX6_next_102 (by decide) ?_
                  exact hret _ _ _ _ _ _ dX6_next_103 (rfl) hP hS (Or.inl ⟨1, by first | (exfalso; omega) | (unfold nx; (repeat (first | rw [if_pos (by omega)] | rw [if_neg (by omega)]))), rfl, rfl⟩)
            · skip
              refine lv_iload_n hxx hbb dX6_next_81 rfl (lv_at hl 0 rfl) ?_
              refine zif_eq (tgt := 90) S (by omega) dX6_next_82 (by decide) (fun c_131 => ?_) (fun c_131 => ?_)
              · skip
                exact absurd c_131 (by decide)
              · skip
                refine lv_bipush (v := nI 6) hxx hbb dX6_next_85 (by decide) ?_
                refine lv_goto (tgt := 91) hxx hbb dX6_next_87 (by decide) ?_
                exact hret _ _ _ _ _ _ dX6_next_91 (rfl) hP hS (Or.inl ⟨6, by first | (exfalso; omega) | (unfold nx; (repeat (first | rw [if_pos (by omega)] | rw [if_neg (by omega)]))), rfl, rfl⟩)
      · skip
        refine lv_iload_n hxx hbb dX6_next_15 rfl (lv_at hl 1 rfl) ?_
        refine ZI.callS S hK hP hS hB (kX6_small l G A Y cx (by omega)) zwX6_71 zdX6_small rfl ⟨Nat.le_trans (by decide) hfr, Nat.le_trans (by decide) hlo⟩ rfl (Nat.le_of_ble_eq_true rfl) hl.1 dX6_next_16 ⟨Nat.zero_le _, Nat.zero_le _⟩ (fun r_132 Y_133 H locs hq_134 hP hS => ?_)
        rcases hq_134 with ⟨hb_135, hr9, hY9⟩ | ⟨hb_135, hr9, hY9⟩
        · skip
          subst hr9; rw [hY9] at hP
          refine zif_eq (tgt := 26) S (by omega) dX6_next_19 (by decide) (fun c_136 => ?_) (fun c_136 => ?_)
          · skip
            exact absurd c_136 (by decide)
          · skip
            refine lv_iconst (v := nI 4) hxx hbb dX6_next_22 (by decide) ?_
            refine lv_goto (tgt := 57) hxx hbb dX6_next_23 (by decide) ?_
            exact hret _ _ _ _ _ _ dX6_next_57 (rfl) hP hS (Or.inl ⟨4, by first | (exfalso; omega) | (unfold nx; (repeat (first | rw [if_pos (by omega)] | rw [if_neg (by omega)]))), rfl, rfl⟩)
        · skip
          subst hr9; rw [hY9] at hP
          refine zif_eq (tgt := 26) S (by omega) dX6_next_19 (by decide) (fun c_137 => ?_) (fun c_137 => ?_)
          · skip
            refine lv_iload_n hxx hbb dX6_next_26 rfl (lv_at hl 0 rfl) ?_
            refine lv_iconst (v := nI 2) hxx hbb dX6_next_27 (by decide) ?_
            refine zcmp_ne (tgt := 41) S (by omega) (by omega) dX6_next_28 (by decide) (fun c_138 => ?_) (fun c_138 => ?_)
            · skip
              refine lv_iload_n hxx hbb dX6_next_41 rfl (lv_at hl 0 rfl) ?_
              refine lv_iconst (v := nI 4) hxx hbb dX6_next_42 (by decide) ?_
              refine zcmp_ne (tgt := 56) S (by omega) (by omega) dX6_next_43 (by decide) (fun c_139 => ?_) (fun c_139 => ?_)
              · skip
                refine lv_iconst (v := (-1)) hxx hbb dX6_next_56 (by decide) ?_
                exact hret _ _ _ _ _ _ dX6_next_57 (rfl) hP hS (Or.inr ⟨by first | (exfalso; omega) | (unfold nx; (repeat (first | rw [if_pos (by omega)] | rw [if_neg (by omega)]))), rfl, rfl⟩)
              · skip
                refine lv_iload_n hxx hbb dX6_next_46 rfl (lv_at hl 1 rfl) ?_
                refine lv_bipush (v := nI 93) hxx hbb dX6_next_47 (by decide) ?_
                refine zcmp_ne (tgt := 56) S (by omega) (by omega) dX6_next_49 (by decide) (fun c_140 => ?_) (fun c_140 => ?_)
                · skip
                  refine lv_iconst (v := (-1)) hxx hbb dX6_next_56 (by decide) ?_
                  exact hret _ _ _ _ _ _ dX6_next_57 (rfl) hP hS (Or.inr ⟨by first | (exfalso; omega) | (unfold nx; (repeat (first | rw [if_pos (by omega)] | rw [if_neg (by omega)]))), rfl, rfl⟩)
                · skip
                  refine lv_iconst (v := nI 1) hxx hbb dX6_next_52 (by decide) ?_
                  refine lv_goto (tgt := 57) hxx hbb dX6_next_53 (by decide) ?_
                  exact hret _ _ _ _ _ _ dX6_next_57 (rfl) hP hS (Or.inl ⟨1, by first | (exfalso; omega) | (unfold nx; (repeat (first | rw [if_pos (by omega)] | rw [if_neg (by omega)]))), rfl, rfl⟩)
            · skip
              refine lv_iload_n hxx hbb dX6_next_31 rfl (lv_at hl 1 rfl) ?_
              refine lv_bipush (v := nI 94) hxx hbb dX6_next_32 (by decide) ?_
              refine zcmp_ne (tgt := 41) S (by omega) (by omega) dX6_next_34 (by decide) (fun c_141 => ?_) (fun c_141 => ?_)
              · skip
                refine lv_iload_n hxx hbb dX6_next_41 rfl (lv_at hl 0 rfl) ?_
                refine lv_iconst (v := nI 4) hxx hbb dX6_next_42 (by decide) ?_
                refine zcmp_ne (tgt := 56) S (by omega) (by omega) dX6_next_43 (by decide) (fun c_142 => ?_) (fun c_142 => ?_)
                · skip
                  refine lv_iconst (v := (-1)) hxx hbb dX6_next_56 (by decide) ?_
                  exact hret _ _ _ _ _ _ dX6_next_57 (rfl) hP hS (Or.inr ⟨by first | (exfalso; omega) | (unfold nx; (repeat (first | rw [if_pos (by omega)] | rw [if_neg (by omega)]))), rfl, rfl⟩)
                · skip
                  refine lv_iload_n hxx hbb dX6_next_46 rfl (lv_at hl 1 rfl) ?_
                  refine lv_bipush (v := nI 93) hxx hbb dX6_next_47 (by decide) ?_
                  refine zcmp_ne (tgt := 56) S (by omega) (by omega) dX6_next_49 (by decide) (fun c_143 => ?_) (fun c_143 => ?_)
                  · skip
                    refine lv_iconst (v := (-1)) hxx hbb dX6_next_56 (by decide) ?_
                    exact hret _ _ _ _ _ _ dX6_next_57 (rfl) hP hS (Or.inr ⟨by first | (exfalso; omega) | (unfold nx; (repeat (first | rw [if_pos (by omega)] | rw [if_neg (by omega)]))), rfl, rfl⟩)
                  · skip
                    refine lv_iconst (v := nI 1) hxx hbb dX6_next_52 (by decide) ?_
                    refine lv_goto (tgt := 57) hxx hbb dX6_next_53 (by decide) ?_
                    exact hret _ _ _ _ _ _ dX6_next_57 (rfl) hP hS (Or.inl ⟨1, by first | (exfalso; omega) | (unfold nx; (repeat (first | rw [if_pos (by omega)] | rw [if_neg (by omega)]))), rfl, rfl⟩)
              · skip
                refine lv_iconst (v := nI 3) hxx hbb dX6_next_37 (by decide) ?_
                refine lv_goto (tgt := 57) hxx hbb dX6_next_38 (by decide) ?_
                exact hret _ _ _ _ _ _ dX6_next_57 (rfl) hP hS (Or.inl ⟨3, by first | (exfalso; omega) | (unfold nx; (repeat (first | rw [if_pos (by omega)] | rw [if_neg (by omega)]))), rfl, rfl⟩)
          · skip
            exact absurd c_137 (by decide)

set_option maxHeartbeats 4000000 in
set_option maxRecDepth 100000 in
theorem kX6_fault (l : Launch) (G : zG) (A : Nat → Nat) (Y : zY) (n : Nat) (ch : Nat → Nat) (S0 : nY) (hG : G0 S0) (hn : n ≤ 40) (hch : ∀ k, k < n → Y 103 k = nI (ch k) ∧ ch k < 65536) (h0 : Y 102 0 = nI n) : ZI l yX6_fault cX6_fault 6 (.int) 2 43 G A Y [.ref (A 102)] (fun r Y' => fltR S0 ch n r ∧ Y' = Y) := by
  refine ZI.enter (by decide) (Nat.le_of_ble_eq_true rfl) ?_
  intro p e s m args below meth c R Q hxx hbb S hK hfr hlo hret H ls hP hS hl
  have hB : ∀ q, zAd A q → zAd A q := fun _ h => h
  have hl : lv_has ls 6 [(0, .ref (A 102))] := hl
  have S : CallFix p m c cX6_fault 6 s args wsL_law RX6 := S
  refine lv_iconst (v := nI 0) hxx hbb dX6_fault_0 (by decide) ?_
  refine lv_istore_n (lv' := [(1, .int (nI 0)), (0, .ref (A 102))]) hxx hbb dX6_fault_1 rfl hl (by decide) rfl (fun ls hl => ?_)
  refine lv_iconst (v := nI 0) hxx hbb dX6_fault_2 (by decide) ?_
  refine lv_istore_n (lv' := [(2, .int (nI 0)), (1, .int (nI 0)), (0, .ref (A 102))]) hxx hbb dX6_fault_3 rfl hl (by decide) rfl (fun ls hl => ?_)
  refine lv_iconst (v := nI 0) hxx hbb dX6_fault_4 (by decide) ?_
  refine lv_istore_n (lv' := [(3, .int (nI 0)), (2, .int (nI 0)), (1, .int (nI 0)), (0, .ref (A 102))]) hxx hbb dX6_fault_5 rfl hl (by decide) rfl (fun ls hl => ?_)
  have L_6 : ∀ (N_6 : Nat) (k : Nat) (T8 : nY) (s8 d8 : Nat) (hk : k ≤ n) (hrun : sRun S0 ch k = some T8) (hs8 : s8 = T8 0 0) (hd8 : d8 = T8 0 1), n - k < N_6 → ∀ (H : Heap) (locs : List Loc) (ls : Array Slot), va_P G.1 vwCl (zW G A Y) H → va_S (zAd A) s.heap H locs → lv_has ls 6 [(0, .ref (A 102)), (1, .int (nI s8)), (2, .int (nI d8)), (3, .int (nI k))] → W p l e R s m args below meth c H locs 0 0 Q (F0 m 6 ls []) := by
    intro N_6
    induction N_6 with
    | zero => intro k T8 s8 d8 hk hrun hs8 hd8 hm; exact absurd hm (Nat.not_lt_zero _)
    | succ N_6 ih_6 =>
      intro k T8 s8 d8 hk hrun hs8 hd8 hm_6 H locs ls hP hS hl
      have hRI := hG.run k (by omega) T8 hrun
      have h06 := hRI.2.1
      have hd6 := hRI.1.1
      have hck : k < n → ch k < 65536 := fun g => (hch k g).2
      refine lv_iload_n hxx hbb dX6_fault_6 rfl (lv_at hl 3 rfl) ?_
      refine lv_aload_n hxx hbb dX6_fault_7 rfl (lv_at hl 0 rfl) ?_
      refine zgX6_68 S hK hP 102 (by decide) zk_102 (v := nI n) (h0) dX6_fault_8 ?_
      refine zcmp_ge (tgt := 104) S (by omega) (by omega) dX6_fault_11 (by decide) (fun c_1 => ?_) (fun c_1 => ?_)
      · skip
        refine lv_iload_n hxx hbb dX6_fault_104 rfl (lv_at hl 2 rfl) ?_
        refine zif_ne (tgt := 123) S (by omega) dX6_fault_105 (by decide) (fun c_2 => ?_) (fun c_2 => ?_)
        · skip
          refine lv_aload_n hxx hbb dX6_fault_123 rfl (lv_at hl 0 rfl) ?_
          refine zgX6_68 S hK hP 102 (by decide) zk_102 (v := nI n) (h0) dX6_fault_124 ?_
          exact hret _ _ _ _ _ _ dX6_fault_127 (rfl) hP hS (⟨Or.inr (Or.inl ⟨T8, by rw [show n = k by omega]; exact hrun, fun z => by unfold okS at z; omega, rfl⟩), rfl⟩)
        · skip
          refine lv_iload_n hxx hbb dX6_fault_108 rfl (lv_at hl 1 rfl) ?_
          refine lv_iconst (v := nI 1) hxx hbb dX6_fault_109 (by decide) ?_
          refine zcmp_eq (tgt := 119) S (by omega) (by omega) dX6_fault_110 (by decide) (fun c_3 => ?_) (fun c_3 => ?_)
          · skip
            refine lv_iconst (v := (-1)) hxx hbb dX6_fault_119 (by decide) ?_
            refine lv_goto (tgt := 127) hxx hbb dX6_fault_120 (by decide) ?_
            exact hret _ _ _ _ _ _ dX6_fault_127 (rfl) hP hS (⟨Or.inr (Or.inr ⟨T8, by rw [show n = k by omega]; exact hrun, by unfold okS; omega, rfl⟩), rfl⟩)
          · skip
            refine lv_iload_n hxx hbb dX6_fault_113 rfl (lv_at hl 1 rfl) ?_
            refine lv_bipush (v := nI 6) hxx hbb dX6_fault_114 (by decide) ?_
            refine zcmp_ne (tgt := 123) S (by omega) (by omega) dX6_fault_116 (by decide) (fun c_4 => ?_) (fun c_4 => ?_)
            · skip
              refine lv_aload_n hxx hbb dX6_fault_123 rfl (lv_at hl 0 rfl) ?_
              refine zgX6_68 S hK hP 102 (by decide) zk_102 (v := nI n) (h0) dX6_fault_124 ?_
              exact hret _ _ _ _ _ _ dX6_fault_127 (rfl) hP hS (⟨Or.inr (Or.inl ⟨T8, by rw [show n = k by omega]; exact hrun, fun z => by unfold okS at z; omega, rfl⟩), rfl⟩)
            · skip
              refine lv_iconst (v := (-1)) hxx hbb dX6_fault_119 (by decide) ?_
              refine lv_goto (tgt := 127) hxx hbb dX6_fault_120 (by decide) ?_
              exact hret _ _ _ _ _ _ dX6_fault_127 (rfl) hP hS (⟨Or.inr (Or.inr ⟨T8, by rw [show n = k by omega]; exact hrun, by unfold okS; omega, rfl⟩), rfl⟩)
      · skip
        refine lv_iload_n hxx hbb dX6_fault_14 rfl (lv_at hl 1 rfl) ?_
        refine lv_istore (lv' := [(4, .int (nI s8)), (0, .ref (A 102)), (1, .int (nI s8)), (2, .int (nI d8)), (3, .int (nI k))]) hxx hbb dX6_fault_15 hl (by decide) rfl (fun ls hl => ?_)
        refine lv_iload_n hxx hbb dX6_fault_17 rfl (lv_at hl 2 rfl) ?_
        refine lv_aload_n hxx hbb dX6_fault_18 rfl (lv_at hl 1 rfl) ?_
        refine zgX6_7 S hK hP 102 (by decide) zk_102 dX6_fault_19 ?_
        refine lv_iload_n hxx hbb dX6_fault_22 rfl (lv_at hl 4 rfl) ?_
        refine zaldN S hK hP 103 40 (by decide) zk_103 zl_103 (by omega) (v := nI (ch k)) ((hch _ (by omega)).1) dX6_fault_23 ?_
        refine lv_iload_n hxx hbb dX6_fault_24 rfl (lv_at hl 3 rfl) ?_
        refine ZI.callS S hK hP hS hB (kX6_next l G A Y s8 (ch k) d8 (by omega) (by omega) (by omega)) zwX6_75 zdX6_next rfl ⟨Nat.le_trans (by decide) hfr, Nat.le_trans (by decide) hlo⟩ rfl (Nat.le_of_ble_eq_true rfl) hl.1 dX6_fault_25 ⟨Nat.zero_le _, Nat.zero_le _⟩ (fun r_5 Y_6 H locs hq_7 hP hS => ?_)
        rcases hq_7 with ⟨t9, hnx, hr9, hY9⟩ | ⟨hnx, hr9, hY9⟩
        · skip
          subst hr9; rw [hY9] at hP
          have ht9 := nx_le hnx
          refine lv_istore_n (lv' := [(1, .int (nI t9)), (4, .int (nI s8)), (0, .ref (A 102)), (2, .int (nI d8)), (3, .int (nI k))]) hxx hbb dX6_fault_28 rfl hl (by decide) rfl (fun ls hl => ?_)
          refine lv_iload_n hxx hbb dX6_fault_29 rfl (lv_at hl 0 rfl) ?_
          refine zif_ge (tgt := 35) S (by omega) dX6_fault_30 (by decide) ?_
          refine lv_iload hxx hbb dX6_fault_35 (lv_at hl 1 rfl) ?_
          refine lv_iconst (v := nI 2) hxx hbb dX6_fault_37 (by decide) ?_
          refine zcmp_lt (tgt := 47) S (by omega) (by omega) dX6_fault_38 (by decide) (fun c_9 => ?_) (fun c_9 => ?_)
          · skip
            refine lv_iconst (v := nI 1) hxx hbb dX6_fault_47 (by decide) ?_
            refine lv_goto (tgt := 52) hxx hbb dX6_fault_48 (by decide) ?_
            refine lv_istore (lv' := [(5, .int (nI 1)), (1, .int (nI t9)), (4, .int (nI s8)), (0, .ref (A 102)), (2, .int (nI d8)), (3, .int (nI k))]) hxx hbb dX6_fault_52 hl (by decide) rfl (fun ls hl => ?_)
            refine lv_iload_n hxx hbb dX6_fault_54 rfl (lv_at hl 4 rfl) ?_
            refine lv_iload hxx hbb dX6_fault_55 (lv_at hl 0 rfl) ?_
            refine zif_eq (tgt := 75) S (by omega) dX6_fault_57 (by decide) (fun c_10 => ?_) (fun c_10 => ?_)
            · skip
              exact absurd c_10 (by decide)
            · skip
              refine lv_aload_n hxx hbb dX6_fault_60 rfl (lv_at hl 3 rfl) ?_
              refine zgX6_7 S hK hP 102 (by decide) zk_102 dX6_fault_61 ?_
              refine lv_iload_n hxx hbb dX6_fault_64 rfl (lv_at hl 5 rfl) ?_
              refine zaldN S hK hP 103 40 (by decide) zk_103 zl_103 (by omega) (v := nI (ch k)) ((hch _ (by omega)).1) dX6_fault_65 ?_
              refine lv_bipush (v := nI 40) hxx hbb dX6_fault_66 (by decide) ?_
              refine zcmp_ne (tgt := 75) S (by omega) (by omega) dX6_fault_68 (by decide) (fun c_11 => ?_) (fun c_11 => ?_)
              · skip
                refine lv_iload hxx hbb dX6_fault_75 (lv_at hl 0 rfl) ?_
                refine zif_eq (tgt := 95) S (by omega) dX6_fault_77 (by decide) (fun c_12 => ?_) (fun c_12 => ?_)
                · skip
                  exact absurd c_12 (by decide)
                · skip
                  refine lv_aload_n hxx hbb dX6_fault_80 rfl (lv_at hl 3 rfl) ?_
                  refine zgX6_7 S hK hP 102 (by decide) zk_102 dX6_fault_81 ?_
                  refine lv_iload_n hxx hbb dX6_fault_84 rfl (lv_at hl 5 rfl) ?_
                  refine zaldN S hK hP 103 40 (by decide) zk_103 zl_103 (by omega) (v := nI (ch k)) ((hch _ (by omega)).1) dX6_fault_85 ?_
                  refine lv_bipush (v := nI 41) hxx hbb dX6_fault_86 (by decide) ?_
                  refine zcmp_ne (tgt := 95) S (by omega) (by omega) dX6_fault_88 (by decide) (fun c_13 => ?_) (fun c_13 => ?_)
                  · skip
                    refine lv_iconst (v := nI 0) hxx hbb dX6_fault_95 (by decide) ?_
                    refine zaddN S dX6_fault_96 ?_
                    refine lv_istore_n (lv' := [(2, .int (nI (d8 + 0))), (5, .int (nI 1)), (1, .int (nI t9)), (4, .int (nI s8)), (0, .ref (A 102)), (3, .int (nI k))]) hxx hbb dX6_fault_97 rfl hl (by decide) rfl (fun ls hl => ?_)
                    refine lv_iinc (v := nI (k + 1)) (lv' := [(3, .int (nI (k + 1))), (2, .int (nI (d8 + 0))), (5, .int (nI 1)), (1, .int (nI t9)), (4, .int (nI s8)), (0, .ref (A 102))]) hxx hbb dX6_fault_98 hl (k := 5) rfl (zinc1 _) (by decide) rfl (fun ls hl => ?_)
                    refine lv_goto (tgt := 6) hxx hbb dX6_fault_101 (by decide) ?_
                    exact ih_6 (k + 1) (sAct T8 (ch k)) t9 (d8 + 0) (by omega) (sRun_s hrun (by rw [← hs8, ← hd8, hnx]; exact fun z => by cases z)) (((sAct_s (hs8 ▸ hd8 ▸ hnx) h06).1).symm) (by rw [(sAct_s (hs8 ▸ hd8 ▸ hnx) h06).2]; unfold nd; (repeat' split) <;> omega) (by omega) _ _ _ hP hS (lv_sub hl [5, 3, 1, 0] rfl)
                  · skip
                    refine lv_iconst (v := (-1)) hxx hbb dX6_fault_91 (by decide) ?_
                    refine lv_goto (tgt := 96) hxx hbb dX6_fault_92 (by decide) ?_
                    refine lv_iadd hxx hbb dX6_fault_96 ?_
                    have hd41 : 0 < d8 := nx_41 (t := t9) (by rw [show (41 : Nat) = ch k by omega]; exact hnx) (by omega)
                    rw [show (nI d8 + (-1) : Int32) = nI (d8 - 1) from zdec1 (by omega)]
                    refine lv_istore_n (lv' := [(2, .int (nI (d8 - 1))), (5, .int (nI 1)), (1, .int (nI t9)), (4, .int (nI s8)), (0, .ref (A 102)), (3, .int (nI k))]) hxx hbb dX6_fault_97 rfl hl (by decide) rfl (fun ls hl => ?_)
                    refine lv_iinc (v := nI (k + 1)) (lv' := [(3, .int (nI (k + 1))), (2, .int (nI (d8 - 1))), (5, .int (nI 1)), (1, .int (nI t9)), (4, .int (nI s8)), (0, .ref (A 102))]) hxx hbb dX6_fault_98 hl (k := 5) rfl (zinc1 _) (by decide) rfl (fun ls hl => ?_)
                    refine lv_goto (tgt := 6) hxx hbb dX6_fault_101 (by decide) ?_
                    exact ih_6 (k + 1) (sAct T8 (ch k)) t9 (d8 - 1) (by omega) (sRun_s hrun (by rw [← hs8, ← hd8, hnx]; exact fun z => by cases z)) (((sAct_s (hs8 ▸ hd8 ▸ hnx) h06).1).symm) (by rw [(sAct_s (hs8 ▸ hd8 ▸ hnx) h06).2]; unfold nd; (repeat' split) <;> omega) (by omega) _ _ _ hP hS (lv_sub hl [5, 3, 1, 0] rfl)
              · skip
                refine lv_iconst (v := nI 1) hxx hbb dX6_fault_71 (by decide) ?_
                refine lv_goto (tgt := 96) hxx hbb dX6_fault_72 (by decide) ?_
                refine zaddN S dX6_fault_96 ?_
                refine lv_istore_n (lv' := [(2, .int (nI (d8 + 1))), (5, .int (nI 1)), (1, .int (nI t9)), (4, .int (nI s8)), (0, .ref (A 102)), (3, .int (nI k))]) hxx hbb dX6_fault_97 rfl hl (by decide) rfl (fun ls hl => ?_)
                refine lv_iinc (v := nI (k + 1)) (lv' := [(3, .int (nI (k + 1))), (2, .int (nI (d8 + 1))), (5, .int (nI 1)), (1, .int (nI t9)), (4, .int (nI s8)), (0, .ref (A 102))]) hxx hbb dX6_fault_98 hl (k := 5) rfl (zinc1 _) (by decide) rfl (fun ls hl => ?_)
                refine lv_goto (tgt := 6) hxx hbb dX6_fault_101 (by decide) ?_
                exact ih_6 (k + 1) (sAct T8 (ch k)) t9 (d8 + 1) (by omega) (sRun_s hrun (by rw [← hs8, ← hd8, hnx]; exact fun z => by cases z)) (((sAct_s (hs8 ▸ hd8 ▸ hnx) h06).1).symm) (by rw [(sAct_s (hs8 ▸ hd8 ▸ hnx) h06).2]; unfold nd; (repeat' split) <;> omega) (by omega) _ _ _ hP hS (lv_sub hl [5, 3, 1, 0] rfl)
          · skip
            refine lv_iload hxx hbb dX6_fault_41 (lv_at hl 1 rfl) ?_
            refine lv_iconst (v := nI 4) hxx hbb dX6_fault_43 (by decide) ?_
            refine zcmp_le (tgt := 51) S (by omega) (by omega) dX6_fault_44 (by decide) (fun c_14 => ?_) (fun c_14 => ?_)
            · skip
              refine lv_iconst (v := nI 0) hxx hbb dX6_fault_51 (by decide) ?_
              refine lv_istore (lv' := [(5, .int (nI 0)), (1, .int (nI t9)), (4, .int (nI s8)), (0, .ref (A 102)), (2, .int (nI d8)), (3, .int (nI k))]) hxx hbb dX6_fault_52 hl (by decide) rfl (fun ls hl => ?_)
              refine lv_iload_n hxx hbb dX6_fault_54 rfl (lv_at hl 4 rfl) ?_
              refine lv_iload hxx hbb dX6_fault_55 (lv_at hl 0 rfl) ?_
              refine zif_eq (tgt := 75) S (by omega) dX6_fault_57 (by decide) (fun c_15 => ?_) (fun c_15 => ?_)
              · skip
                refine lv_iload hxx hbb dX6_fault_75 (lv_at hl 0 rfl) ?_
                refine zif_eq (tgt := 95) S (by omega) dX6_fault_77 (by decide) (fun c_16 => ?_) (fun c_16 => ?_)
                · skip
                  refine lv_iconst (v := nI 0) hxx hbb dX6_fault_95 (by decide) ?_
                  refine zaddN S dX6_fault_96 ?_
                  refine lv_istore_n (lv' := [(2, .int (nI (d8 + 0))), (5, .int (nI 0)), (1, .int (nI t9)), (4, .int (nI s8)), (0, .ref (A 102)), (3, .int (nI k))]) hxx hbb dX6_fault_97 rfl hl (by decide) rfl (fun ls hl => ?_)
                  refine lv_iinc (v := nI (k + 1)) (lv' := [(3, .int (nI (k + 1))), (2, .int (nI (d8 + 0))), (5, .int (nI 0)), (1, .int (nI t9)), (4, .int (nI s8)), (0, .ref (A 102))]) hxx hbb dX6_fault_98 hl (k := 5) rfl (zinc1 _) (by decide) rfl (fun ls hl => ?_)
                  refine lv_goto (tgt := 6) hxx hbb dX6_fault_101 (by decide) ?_
                  exact ih_6 (k + 1) (sAct T8 (ch k)) t9 (d8 + 0) (by omega) (sRun_s hrun (by rw [← hs8, ← hd8, hnx]; exact fun z => by cases z)) (((sAct_s (hs8 ▸ hd8 ▸ hnx) h06).1).symm) (by rw [(sAct_s (hs8 ▸ hd8 ▸ hnx) h06).2]; unfold nd; (repeat' split) <;> omega) (by omega) _ _ _ hP hS (lv_sub hl [5, 3, 1, 0] rfl)
                · skip
                  exact absurd c_16 (by decide)
              · skip
                exact absurd c_15 (by decide)
            · skip
              refine lv_iconst (v := nI 1) hxx hbb dX6_fault_47 (by decide) ?_
              refine lv_goto (tgt := 52) hxx hbb dX6_fault_48 (by decide) ?_
              refine lv_istore (lv' := [(5, .int (nI 1)), (1, .int (nI t9)), (4, .int (nI s8)), (0, .ref (A 102)), (2, .int (nI d8)), (3, .int (nI k))]) hxx hbb dX6_fault_52 hl (by decide) rfl (fun ls hl => ?_)
              refine lv_iload_n hxx hbb dX6_fault_54 rfl (lv_at hl 4 rfl) ?_
              refine lv_iload hxx hbb dX6_fault_55 (lv_at hl 0 rfl) ?_
              refine zif_eq (tgt := 75) S (by omega) dX6_fault_57 (by decide) (fun c_17 => ?_) (fun c_17 => ?_)
              · skip
                exact absurd c_17 (by decide)
              · skip
                refine lv_aload_n hxx hbb dX6_fault_60 rfl (lv_at hl 3 rfl) ?_
                refine zgX6_7 S hK hP 102 (by decide) zk_102 dX6_fault_61 ?_
                refine lv_iload_n hxx hbb dX6_fault_64 rfl (lv_at hl 5 rfl) ?_
                refine zaldN S hK hP 103 40 (by decide) zk_103 zl_103 (by omega) (v := nI (ch k)) ((hch _ (by omega)).1) dX6_fault_65 ?_
                refine lv_bipush (v := nI 40) hxx hbb dX6_fault_66 (by decide) ?_
                refine zcmp_ne (tgt := 75) S (by omega) (by omega) dX6_fault_68 (by decide) (fun c_18 => ?_) (fun c_18 => ?_)
                · skip
                  refine lv_iload hxx hbb dX6_fault_75 (lv_at hl 0 rfl) ?_
                  refine zif_eq (tgt := 95) S (by omega) dX6_fault_77 (by decide) (fun c_19 => ?_) (fun c_19 => ?_)
                  · skip
                    exact absurd c_19 (by decide)
                  · skip
                    refine lv_aload_n hxx hbb dX6_fault_80 rfl (lv_at hl 3 rfl) ?_
                    refine zgX6_7 S hK hP 102 (by decide) zk_102 dX6_fault_81 ?_
                    refine lv_iload_n hxx hbb dX6_fault_84 rfl (lv_at hl 5 rfl) ?_
                    refine zaldN S hK hP 103 40 (by decide) zk_103 zl_103 (by omega) (v := nI (ch k)) ((hch _ (by omega)).1) dX6_fault_85 ?_
                    refine lv_bipush (v := nI 41) hxx hbb dX6_fault_86 (by decide) ?_
                    refine zcmp_ne (tgt := 95) S (by omega) (by omega) dX6_fault_88 (by decide) (fun c_20 => ?_) (fun c_20 => ?_)
                    · skip
                      refine lv_iconst (v := nI 0) hxx hbb dX6_fault_95 (by decide) ?_
                      refine zaddN S dX6_fault_96 ?_
                      refine lv_istore_n (lv' := [(2, .int (nI (d8 + 0))), (5, .int (nI 1)), (1, .int (nI t9)), (4, .int (nI s8)), (0, .ref (A 102)), (3, .int (nI k))]) hxx hbb dX6_fault_97 rfl hl (by decide) rfl (fun ls hl => ?_)
                      refine lv_iinc (v := nI (k + 1)) (lv' := [(3, .int (nI (k + 1))), (2, .int (nI (d8 + 0))), (5, .int (nI 1)), (1, .int (nI t9)), (4, .int (nI s8)), (0, .ref (A 102))]) hxx hbb dX6_fault_98 hl (k := 5) rfl (zinc1 _) (by decide) rfl (fun ls hl => ?_)
                      refine lv_goto (tgt := 6) hxx hbb dX6_fault_101 (by decide) ?_
                      exact ih_6 (k + 1) (sAct T8 (ch k)) t9 (d8 + 0) (by omega) (sRun_s hrun (by rw [← hs8, ← hd8, hnx]; exact fun z => by cases z)) (((sAct_s (hs8 ▸ hd8 ▸ hnx) h06).1).symm) (by rw [(sAct_s (hs8 ▸ hd8 ▸ hnx) h06).2]; unfold nd; (repeat' split) <;> omega) (by omega) _ _ _ hP hS (lv_sub hl [5, 3, 1, 0] rfl)
                    · skip
                      refine lv_iconst (v := (-1)) hxx hbb dX6_fault_91 (by decide) ?_
                      refine lv_goto (tgt := 96) hxx hbb dX6_fault_92 (by decide) ?_
                      refine lv_iadd hxx hbb dX6_fault_96 ?_
                      have hd41 : 0 < d8 := nx_41 (t := t9) (by rw [show (41 : Nat) = ch k by omega]; exact hnx) (by omega)
                      rw [show (nI d8 + (-1) : Int32) = nI (d8 - 1) from zdec1 (by omega)]
                      refine lv_istore_n (lv' := [(2, .int (nI (d8 - 1))), (5, .int (nI 1)), (1, .int (nI t9)), (4, .int (nI s8)), (0, .ref (A 102)), (3, .int (nI k))]) hxx hbb dX6_fault_97 rfl hl (by decide) rfl (fun ls hl => ?_)
                      refine lv_iinc (v := nI (k + 1)) (lv' := [(3, .int (nI (k + 1))), (2, .int (nI (d8 - 1))), (5, .int (nI 1)), (1, .int (nI t9)), (4, .int (nI s8)), (0, .ref (A 102))]) hxx hbb dX6_fault_98 hl (k := 5) rfl (zinc1 _) (by decide) rfl (fun ls hl => ?_)
                      refine lv_goto (tgt := 6) hxx hbb dX6_fault_101 (by decide) ?_
                      exact ih_6 (k + 1) (sAct T8 (ch k)) t9 (d8 - 1) (by omega) (sRun_s hrun (by rw [← hs8, ← hd8, hnx]; exact fun z => by cases z)) (((sAct_s (hs8 ▸ hd8 ▸ hnx) h06).1).symm) (by rw [(sAct_s (hs8 ▸ hd8 ▸ hnx) h06).2]; unfold nd; (repeat' split) <;> omega) (by omega) _ _ _ hP hS (lv_sub hl [5, 3, 1, 0] rfl)
                · skip
                  refine lv_iconst (v := nI 1) hxx hbb dX6_fault_71 (by decide) ?_
                  refine lv_goto (tgt := 96) hxx hbb dX6_fault_72 (by decide) ?_
                  refine zaddN S dX6_fault_96 ?_
                  refine lv_istore_n (lv' := [(2, .int (nI (d8 + 1))), (5, .int (nI 1)), (1, .int (nI t9)), (4, .int (nI s8)), (0, .ref (A 102)), (3, .int (nI k))]) hxx hbb dX6_fault_97 rfl hl (by decide) rfl (fun ls hl => ?_)
                  refine lv_iinc (v := nI (k + 1)) (lv' := [(3, .int (nI (k + 1))), (2, .int (nI (d8 + 1))), (5, .int (nI 1)), (1, .int (nI t9)), (4, .int (nI s8)), (0, .ref (A 102))]) hxx hbb dX6_fault_98 hl (k := 5) rfl (zinc1 _) (by decide) rfl (fun ls hl => ?_)
                  refine lv_goto (tgt := 6) hxx hbb dX6_fault_101 (by decide) ?_
                  exact ih_6 (k + 1) (sAct T8 (ch k)) t9 (d8 + 1) (by omega) (sRun_s hrun (by rw [← hs8, ← hd8, hnx]; exact fun z => by cases z)) (((sAct_s (hs8 ▸ hd8 ▸ hnx) h06).1).symm) (by rw [(sAct_s (hs8 ▸ hd8 ▸ hnx) h06).2]; unfold nd; (repeat' split) <;> omega) (by omega) _ _ _ hP hS (lv_sub hl [5, 3, 1, 0] rfl)
        · skip
          subst hr9; rw [hY9] at hP
          refine lv_istore_n (lv' := [(1, .int (-1)), (4, .int (nI s8)), (0, .ref (A 102)), (2, .int (nI d8)), (3, .int (nI k))]) hxx hbb dX6_fault_28 rfl hl (by decide) rfl (fun ls hl => ?_)
          refine lv_iload_n hxx hbb dX6_fault_29 rfl (lv_at hl 0 rfl) ?_
          refine lv_if_ge (tgt := 35) hxx hbb dX6_fault_30 (by decide) (fun c_21 => ?_) (fun c_21 => ?_)
          · skip
            exact absurd ‹(0 : Int32) ≤ -1› (by decide)
          · skip
            refine lv_iload_n hxx hbb dX6_fault_33 rfl (lv_at hl 4 rfl) ?_
            exact hret _ _ _ _ _ _ dX6_fault_34 (rfl) hP hS (⟨Or.inl ⟨k, T8, by omega, hrun, by unfold sTake; rw [← hs8, ← hd8, if_pos hnx], rfl⟩, rfl⟩)
  exact L_6 (_ + 1) 0 S0 0 0 (by omega) rfl hG.1.symm hG.2.1.symm (Nat.lt_succ_self _) _ _ _ hP hS (lv_sub hl [3, 2, 1, 0] rfl)
