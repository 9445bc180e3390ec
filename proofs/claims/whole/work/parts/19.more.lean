section ZM
variable {p : Program} {l : Launch} {e : Env} {R : Room} {s : State} {m : MethodId} {args : Array Value} {below : List Frame} {meth : Method} {c : Code} {H : Heap} {locs : List Loc} {cells slots : Nat} {Q : State → Prop}
variable {cc : ByteArray} {pc nL : Nat} {ls : Array Slot} {rest : List Value} {G : zG} {A : Nat → Nat} {Y : zY} {B0 : Nat → Prop} {H0 : Heap} {own : String}
theorem zalenC (S : CallFix p m c cc nL s args wsL_law own) (hK : zK G A s) (hP : va_P G.1 vwCl (zW G A Y) H) (p0 n : Nat) (hp : p0 < 117) (hz : zk p0 = 7) (hn : zl p0 = n) (hdg : decode cc pc = .ok (.arraylength, 1))
    (kk : W p l e R s m args below meth c H locs cells slots Q (F0 m (pc + 1) ls (.int (nI n) :: rest))) : W p l e R s m args below meth c H locs cells slots Q (F0 m pc ls (.ref (A p0) :: rest)) := by
  subst hn
  exact va_alen (D := G.1) S.1 S.2.1 hK.1 hP p0 1 (cA := G.2.2.1) (x := (zl p0, .inl (Y p0))) (by rw [zW_get hp]; simp [zc, hz]) rfl rfl hdg kk
theorem zdivN (S : CallFix p m c cc nL s args wsL_law own) {a b : Nat} (ha : a < 2 ^ 31) (h0 : 0 < b) (hb : b < 2 ^ 31) (hdg : decode cc pc = .ok (.idiv, 1)) (kk : W p l e R s m args below meth c H locs cells slots Q (F0 m (pc + 1) ls (.int (nI (a / b)) :: rest))) : W p l e R s m args below meth c H locs cells slots Q (F0 m pc ls (.int (nI b) :: .int (nI a) :: rest)) :=
  lv_idiv S.1 S.2.1 hdg (nI_ne0 h0 hb) (by rw [pk_div ha h0 hb]; exact kk)
end ZM
theorem zdecR (a : Nat) : nI a + Int32.ofInt (-1) = nI a - nI 1 := by
  rw [Int32.sub_eq_add_neg]; rfl
theorem z_qpos {q : Nat} (h : ¬ nI q - nI 1 < 0) : 1 ≤ q := by
  cases q with
  | zero => exact absurd (by decide) h
  | succ q => omega
theorem z_q0 {q : Nat} (hq : q < 2 ^ 31) (h : nI q - nI 1 < 0) : q = 0 := by
  by_cases h0 : q = 0
  · exact h0
  · rw [pk_sub (by omega)] at h
    exact absurd h (nI_pos (by omega))
def tri (j : Nat) : Nat := j * (j + 1) / 2
theorem tri_s (j : Nat) : tri (j + 1) = tri j + j + 1 := by
  unfold tri
  have h : (j + 1) * (j + 1 + 1) = j * (j + 1) + 2 * (j + 1) := by rw [Nat.mul_comm (j + 1) (j + 1 + 1), Nat.add_mul, Nat.add_mul]; omega
  rw [h]; omega
theorem tri_mono {a b : Nat} (h : a ≤ b) : tri a ≤ tri b := by
  induction b with
  | zero => have : a = 0 := by omega
            subst this; exact Nat.le_refl _
  | succ b ih =>
    by_cases e : a = b + 1
    · subst e; exact Nat.le_refl _
    · have := ih (by omega); rw [tri_s]; omega
theorem tri_lt {i j : Nat} (h1 : i ≤ j) (h2 : j ≤ 24) : tri j + i < 325 := by
  have h := tri_mono h2
  have h3 : tri 24 = 300 := by decide
  omega
/-- columns are apart -/
theorem tri_col {i j i' j' : Nat} (h1 : i ≤ j) (h2 : j < j') : tri j + i < tri j' + i' := by
  have h := tri_mono (a := j + 1) (b := j') h2
  rw [tri_s] at h; omega
/-- a Letters' object and its row -/
def zLP (q : Nat) : Prop := q + 1 < 117 ∧ zk q = 3 ∧ zk (q + 1) = 7 ∧ zl (q + 1) = 24
theorem zLP_text : zLP 16 := ⟨by decide, by decide +kernel, by decide +kernel, by decide +kernel⟩
theorem zLP_word {w : Nat} (h : w < 20) : zLP (62 + 2 * w) := ⟨by omega, zk_let h, zk_sig h, zl_sig h⟩
