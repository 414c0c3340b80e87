/-! Leaves: contracts of the small methods. -/
abbrev hasb (s k : Int) : Prop := band (bshr s k) 1 = 1
theorem zcmp_lt {a b : Int} : zcmp a b < 0 ↔ a < b := by unfold zcmp; split <;> (try split) <;> omega
theorem zcmp_gt {a b : Int} : 0 < zcmp a b ↔ b < a := by unfold zcmp; split <;> (try split) <;> omega
theorem zcmp_ne {a b : Int} : zcmp a b = 0 ↔ a = b := by unfold zcmp; split <;> (try split) <;> omega
theorem band1 (x : Int) : 0 ≤ band x 1 ∧ band x 1 ≤ 1 := by
  have h : ∀ y : Int32, (y &&& 1) = 0 ∨ (y &&& 1) = 1 := by
    intro y
    have e : (y &&& 1).toBitVec = 0#32 ∨ (y &&& 1).toBitVec = 1#32 := by
      rw [Int32.toBitVec_and]
      have : ∀ z : BitVec 32, z &&& 1#32 = 0#32 ∨ z &&& 1#32 = 1#32 := by
        intro z
        rcases hz : z.getLsbD 0 with _ | _
        · left
          apply BitVec.eq_of_getLsbD_eq
          intro i hi
          rw [BitVec.getLsbD_and]
          by_cases h0 : i = 0
          · subst h0; simpa using hz
          · simp [h0]
        · right
          apply BitVec.eq_of_getLsbD_eq
          intro i hi
          rw [BitVec.getLsbD_and]
          by_cases h0 : i = 0
          · subst h0; simpa using hz
          · simp [h0]
      exact this y.toBitVec
    rcases e with e | e
    · left; exact Int32.toBitVec_inj.mp e
    · right; exact Int32.toBitVec_inj.mp e
  have e1 : Int32.ofInt 1 = 1 := by decide
  unfold band
  rw [e1]
  rcases h (Int32.ofInt x) with q | q <;> rw [q] <;> decide
/-- how many of the six lowest bits are set -/
def popc (x : Int) : Int := x % 2 + x / 2 % 2 + x / 4 % 2 + x / 8 % 2 + x / 16 % 2 + x / 32 % 2
theorem popc_r (x : Int) : 0 ≤ popc x ∧ popc x ≤ 6 := by unfold popc; omega
theorem fin64 {P : Int → Prop} (h : ∀ n : Fin 64, P (n.val : Int)) : ∀ x : Int, 0 ≤ x → x < 64 → P x := by
  intro x h0 h1
  have := h ⟨x.toNat, by omega⟩
  simp only at this
  rw [Int.toNat_of_nonneg h0] at this
  exact this

theorem qX9_has {l : Launch} {S : zS} {h : zH} {Q : zQt} {s k : Int} (h1 : hasb s k → Q (some (zi 1)) S h) (h0 : ¬ hasb s k → Q (some (zi 0)) S h) : zC l mX9_has [zi s, zi k] S h Q := by
  refine z_method kX9_has.1 rfl (Nat.le_of_ble_eq_true rfl) (fun hok hh => ?_)
  refine z_iload_n dX9_has_0 rfl ?_
  refine z_iload_n dX9_has_1 rfl ?_
  refine z_ishr dX9_has_2 ?_
  refine z_iconst dX9_has_3 ⟨by decide, by decide⟩ ?_
  refine z_iand dX9_has_4 ?_
  refine z_iconst dX9_has_5 ⟨by decide, by decide⟩ ?_
  refine z_icmp_ne (tgt := 13) dX9_has_6 (by decide) (fun c6 => ?_) (fun c6 => ?_)
  ·
    refine z_iconst dX9_has_13 ⟨by decide, by decide⟩ ?_
    refine z_ret (v := some (zi _)) dX9_has_14 (Or.inl rfl) (Nat.add_zero _).symm (Nat.add_zero _).symm rfl ?_
    first | exact h1 c6 | exact h0 c6 | exact h1 (Decidable.not_not.mp c6)
  ·
    refine z_iconst dX9_has_9 ⟨by decide, by decide⟩ ?_
    refine z_goto (tgt := 14) dX9_has_10 (by decide) ?_
    refine z_ret (v := some (zi _)) dX9_has_14 (Or.inr rfl) (Nat.add_zero _).symm (Nat.add_zero _).symm rfl ?_
    first | exact h1 c6 | exact h0 c6 | exact h1 (Decidable.not_not.mp c6)
theorem qX10_has {l : Launch} {S : zS} {h : zH} {Q : zQt} {s k : Int} (h1 : hasb s k → Q (some (zi 1)) S h) (h0 : ¬ hasb s k → Q (some (zi 0)) S h) : zC l mX10_has [zi s, zi k] S h Q := by
  refine z_method kX10_has.1 rfl (Nat.le_of_ble_eq_true rfl) (fun hok hh => ?_)
  refine z_iload_n dX10_has_0 rfl ?_
  refine z_iload_n dX10_has_1 rfl ?_
  refine z_ishr dX10_has_2 ?_
  refine z_iconst dX10_has_3 ⟨by decide, by decide⟩ ?_
  refine z_iand dX10_has_4 ?_
  refine z_iconst dX10_has_5 ⟨by decide, by decide⟩ ?_
  refine z_icmp_ne (tgt := 13) dX10_has_6 (by decide) (fun c6 => ?_) (fun c6 => ?_)
  ·
    refine z_iconst dX10_has_13 ⟨by decide, by decide⟩ ?_
    refine z_ret (v := some (zi _)) dX10_has_14 (Or.inl rfl) (Nat.add_zero _).symm (Nat.add_zero _).symm rfl ?_
    first | exact h1 c6 | exact h0 c6 | exact h1 (Decidable.not_not.mp c6)
  ·
    refine z_iconst dX10_has_9 ⟨by decide, by decide⟩ ?_
    refine z_goto (tgt := 14) dX10_has_10 (by decide) ?_
    refine z_ret (v := some (zi _)) dX10_has_14 (Or.inr rfl) (Nat.add_zero _).symm (Nat.add_zero _).symm rfl ?_
    first | exact h1 c6 | exact h0 c6 | exact h1 (Decidable.not_not.mp c6)
theorem qX10_in {l : Launch} {S : zS} {h : zH} {Q : zQt} {v a b : Int} (h1 : (a ≤ v ∧ v ≤ b) → Q (some (zi 1)) S h) (h0 : ¬ (a ≤ v ∧ v ≤ b) → Q (some (zi 0)) S h) : zC l mX10_in [zl v, zl a, zl b] S h Q := by
  refine z_method kX10_in.1 rfl (Nat.le_of_ble_eq_true rfl) (fun hok hh => ?_)
  refine z_lload_n dX10_in_0 rfl ?_
  refine z_lload_n dX10_in_1 rfl ?_
  refine z_lcmp dX10_in_2 ?_
  refine z_if_lt (tgt := 17) dX10_in_3 (by decide) (fun c3 => ?_) (fun c3 => ?_)
  ·
    refine z_iconst dX10_in_17 ⟨by decide, by decide⟩ ?_
    refine z_ret (v := some (zi _)) dX10_in_18 (Or.inl rfl) (Nat.add_zero _).symm (Nat.add_zero _).symm rfl ?_
    first | exact h1 (by simp only [zcmp_lt, zcmp_gt] at *; omega) | exact h0 (by simp only [zcmp_lt, zcmp_gt] at *; omega)
  ·
    refine z_lload_n dX10_in_6 rfl ?_
    refine z_lload dX10_in_7 rfl ?_
    refine z_lcmp dX10_in_9 ?_
    refine z_if_gt (tgt := 17) dX10_in_10 (by decide) (fun c10 => ?_) (fun c10 => ?_)
    ·
      refine z_iconst dX10_in_17 ⟨by decide, by decide⟩ ?_
      refine z_ret (v := some (zi _)) dX10_in_18 (Or.inl rfl) (Nat.add_zero _).symm (Nat.add_zero _).symm rfl ?_
      first | exact h1 (by simp only [zcmp_lt, zcmp_gt] at *; omega) | exact h0 (by simp only [zcmp_lt, zcmp_gt] at *; omega)
    ·
      refine z_iconst dX10_in_13 ⟨by decide, by decide⟩ ?_
      refine z_goto (tgt := 18) dX10_in_14 (by decide) ?_
      refine z_ret (v := some (zi _)) dX10_in_18 (Or.inr rfl) (Nat.add_zero _).symm (Nat.add_zero _).symm rfl ?_
      first | exact h1 (by simp only [zcmp_lt, zcmp_gt] at *; omega) | exact h0 (by simp only [zcmp_lt, zcmp_gt] at *; omega)
theorem qX7_isLetter {l : Launch} {S : zS} {h : zH} {Q : zQt} {c : Int} (h1 : (97 ≤ c ∧ c ≤ 122) → Q (some (zi 1)) S h) (h0 : ¬ (97 ≤ c ∧ c ≤ 122) → Q (some (zi 0)) S h) : zC l mX7_isLetter [zi c] S h Q := by
  refine z_method kX7_isLetter.1 rfl (Nat.le_of_ble_eq_true rfl) (fun hok hh => ?_)
  refine z_iload_n dX7_isLetter_0 rfl ?_
  refine z_bipush dX7_isLetter_1 ⟨by decide, by decide⟩ ?_
  refine z_icmp_lt (tgt := 16) dX7_isLetter_3 (by decide) (fun c3 => ?_) (fun c3 => ?_)
  ·
    refine z_iconst dX7_isLetter_16 ⟨by decide, by decide⟩ ?_
    refine z_ret (v := some (zi _)) dX7_isLetter_17 (Or.inl rfl) (Nat.add_zero _).symm (Nat.add_zero _).symm rfl ?_
    first | exact h1 (by omega) | exact h0 (by omega)
  ·
    refine z_iload_n dX7_isLetter_6 rfl ?_
    refine z_bipush dX7_isLetter_7 ⟨by decide, by decide⟩ ?_
    refine z_icmp_gt (tgt := 16) dX7_isLetter_9 (by decide) (fun c9 => ?_) (fun c9 => ?_)
    ·
      refine z_iconst dX7_isLetter_16 ⟨by decide, by decide⟩ ?_
      refine z_ret (v := some (zi _)) dX7_isLetter_17 (Or.inl rfl) (Nat.add_zero _).symm (Nat.add_zero _).symm rfl ?_
      first | exact h1 (by omega) | exact h0 (by omega)
    ·
      refine z_iconst dX7_isLetter_12 ⟨by decide, by decide⟩ ?_
      refine z_goto (tgt := 17) dX7_isLetter_13 (by decide) ?_
      refine z_ret (v := some (zi _)) dX7_isLetter_17 (Or.inr rfl) (Nat.add_zero _).symm (Nat.add_zero _).symm rfl ?_
      first | exact h1 (by omega) | exact h0 (by omega)
theorem qX7_isDigit {l : Launch} {S : zS} {h : zH} {Q : zQt} {c : Int} (h1 : (48 ≤ c ∧ c ≤ 57) → Q (some (zi 1)) S h) (h0 : ¬ (48 ≤ c ∧ c ≤ 57) → Q (some (zi 0)) S h) : zC l mX7_isDigit [zi c] S h Q := by
  refine z_method kX7_isDigit.1 rfl (Nat.le_of_ble_eq_true rfl) (fun hok hh => ?_)
  refine z_iload_n dX7_isDigit_0 rfl ?_
  refine z_bipush dX7_isDigit_1 ⟨by decide, by decide⟩ ?_
  refine z_icmp_lt (tgt := 16) dX7_isDigit_3 (by decide) (fun c3 => ?_) (fun c3 => ?_)
  ·
    refine z_iconst dX7_isDigit_16 ⟨by decide, by decide⟩ ?_
    refine z_ret (v := some (zi _)) dX7_isDigit_17 (Or.inl rfl) (Nat.add_zero _).symm (Nat.add_zero _).symm rfl ?_
    first | exact h1 (by omega) | exact h0 (by omega)
  ·
    refine z_iload_n dX7_isDigit_6 rfl ?_
    refine z_bipush dX7_isDigit_7 ⟨by decide, by decide⟩ ?_
    refine z_icmp_gt (tgt := 16) dX7_isDigit_9 (by decide) (fun c9 => ?_) (fun c9 => ?_)
    ·
      refine z_iconst dX7_isDigit_16 ⟨by decide, by decide⟩ ?_
      refine z_ret (v := some (zi _)) dX7_isDigit_17 (Or.inl rfl) (Nat.add_zero _).symm (Nat.add_zero _).symm rfl ?_
      first | exact h1 (by omega) | exact h0 (by omega)
    ·
      refine z_iconst dX7_isDigit_12 ⟨by decide, by decide⟩ ?_
      refine z_goto (tgt := 17) dX7_isDigit_13 (by decide) ?_
      refine z_ret (v := some (zi _)) dX7_isDigit_17 (Or.inr rfl) (Nat.add_zero _).symm (Nat.add_zero _).symm rfl ?_
      first | exact h1 (by omega) | exact h0 (by omega)
theorem qX10_isFigure {l : Launch} {S : zS} {h : zH} {Q : zQt} {c : Int} (h1 : (48 ≤ c ∧ c ≤ 57) → Q (some (zi 1)) S h) (h0 : ¬ (48 ≤ c ∧ c ≤ 57) → Q (some (zi 0)) S h) : zC l mX10_isFigure [zi c] S h Q := by
  refine z_method kX10_isFigure.1 rfl (Nat.le_of_ble_eq_true rfl) (fun hok hh => ?_)
  refine z_iload_n dX10_isFigure_0 rfl ?_
  refine z_bipush dX10_isFigure_1 ⟨by decide, by decide⟩ ?_
  refine z_icmp_lt (tgt := 16) dX10_isFigure_3 (by decide) (fun c3 => ?_) (fun c3 => ?_)
  ·
    refine z_iconst dX10_isFigure_16 ⟨by decide, by decide⟩ ?_
    refine z_ret (v := some (zi _)) dX10_isFigure_17 (Or.inl rfl) (Nat.add_zero _).symm (Nat.add_zero _).symm rfl ?_
    first | exact h1 (by omega) | exact h0 (by omega)
  ·
    refine z_iload_n dX10_isFigure_6 rfl ?_
    refine z_bipush dX10_isFigure_7 ⟨by decide, by decide⟩ ?_
    refine z_icmp_gt (tgt := 16) dX10_isFigure_9 (by decide) (fun c9 => ?_) (fun c9 => ?_)
    ·
      refine z_iconst dX10_isFigure_16 ⟨by decide, by decide⟩ ?_
      refine z_ret (v := some (zi _)) dX10_isFigure_17 (Or.inl rfl) (Nat.add_zero _).symm (Nat.add_zero _).symm rfl ?_
      first | exact h1 (by omega) | exact h0 (by omega)
    ·
      refine z_iconst dX10_isFigure_12 ⟨by decide, by decide⟩ ?_
      refine z_goto (tgt := 17) dX10_isFigure_13 (by decide) ?_
      refine z_ret (v := some (zi _)) dX10_isFigure_17 (Or.inr rfl) (Nat.add_zero _).symm (Nat.add_zero _).symm rfl ?_
      first | exact h1 (by omega) | exact h0 (by omega)
theorem qX10_isLetter {l : Launch} {S : zS} {h : zH} {Q : zQt} {c : Int} (h1 : (97 ≤ c ∧ c ≤ 122) → Q (some (zi 1)) S h) (h0 : ¬ (97 ≤ c ∧ c ≤ 122) → Q (some (zi 0)) S h) : zC l mX10_isLetter [zi c] S h Q := by
  refine z_method kX10_isLetter.1 rfl (Nat.le_of_ble_eq_true rfl) (fun hok hh => ?_)
  refine z_iload_n dX10_isLetter_0 rfl ?_
  refine z_bipush dX10_isLetter_1 ⟨by decide, by decide⟩ ?_
  refine z_icmp_lt (tgt := 16) dX10_isLetter_3 (by decide) (fun c3 => ?_) (fun c3 => ?_)
  ·
    refine z_iconst dX10_isLetter_16 ⟨by decide, by decide⟩ ?_
    refine z_ret (v := some (zi _)) dX10_isLetter_17 (Or.inl rfl) (Nat.add_zero _).symm (Nat.add_zero _).symm rfl ?_
    first | exact h1 (by omega) | exact h0 (by omega)
  ·
    refine z_iload_n dX10_isLetter_6 rfl ?_
    refine z_bipush dX10_isLetter_7 ⟨by decide, by decide⟩ ?_
    refine z_icmp_gt (tgt := 16) dX10_isLetter_9 (by decide) (fun c9 => ?_) (fun c9 => ?_)
    ·
      refine z_iconst dX10_isLetter_16 ⟨by decide, by decide⟩ ?_
      refine z_ret (v := some (zi _)) dX10_isLetter_17 (Or.inl rfl) (Nat.add_zero _).symm (Nat.add_zero _).symm rfl ?_
      first | exact h1 (by omega) | exact h0 (by omega)
    ·
      refine z_iconst dX10_isLetter_12 ⟨by decide, by decide⟩ ?_
      refine z_goto (tgt := 17) dX10_isLetter_13 (by decide) ?_
      refine z_ret (v := some (zi _)) dX10_isLetter_17 (Or.inr rfl) (Nat.add_zero _).symm (Nat.add_zero _).symm rfl ?_
      first | exact h1 (by omega) | exact h0 (by omega)
theorem bits_ok : ∀ x : Int, 0 ≤ x → x < 64 → 0 + band (bshr x 0) 1 + band (bshr x (0 + 1)) 1 + band (bshr x (0 + 1 + 1)) 1 + band (bshr x (0 + 1 + 1 + 1)) 1 + band (bshr x (0 + 1 + 1 + 1 + 1)) 1 + band (bshr x (0 + 1 + 1 + 1 + 1 + 1)) 1 = popc x := fin64 (by decide +kernel)
theorem qX10_bits {l : Launch} {S : zS} {h : zH} {Q : zQt} {s : Int} (g0 : 0 ≤ s) (g1 : s < 64) (hQ : Q (some (zi (popc s))) S h) : zC l mX10_bits [zi s] S h Q := by
  refine z_method kX10_bits.1 rfl (Nat.le_of_ble_eq_true rfl) (fun hok hh => ?_)
  have b0 := band1 (bshr s (0))
  have b1 := band1 (bshr s (0 + 1))
  have b2 := band1 (bshr s (0 + 1 + 1))
  have b3 := band1 (bshr s (0 + 1 + 1 + 1))
  have b4 := band1 (bshr s (0 + 1 + 1 + 1 + 1))
  have b5 := band1 (bshr s (0 + 1 + 1 + 1 + 1 + 1))
  refine z_iconst dX10_bits_0 ⟨by decide, by decide⟩ ?_
  refine z_istore_n dX10_bits_1 (by decide) rfl lss_3_1 ?_
  refine z_iconst dX10_bits_2 ⟨by decide, by decide⟩ ?_
  refine z_istore_n dX10_bits_3 (by decide) rfl lss_3_2 ?_
  refine z_iload_n dX10_bits_4 rfl ?_
  refine z_bipush dX10_bits_5 ⟨by decide, by decide⟩ ?_
  refine z_icmp_ge (tgt := 24) dX10_bits_7 (by decide) (fun q => False.elim (by omega)) (fun _ => ?_)
  refine z_iload_n dX10_bits_10 rfl ?_
  refine z_iload_n dX10_bits_11 rfl ?_
  refine z_iload_n dX10_bits_12 rfl ?_
  refine z_ishr dX10_bits_13 ?_
  refine z_iconst dX10_bits_14 ⟨by decide, by decide⟩ ?_
  refine z_iand dX10_bits_15 ?_
  refine y_iadd dX10_bits_16 (by omega) (by omega) ?_
  refine z_istore_n dX10_bits_17 (by decide) rfl lss_3_1 ?_
  refine y_iinc dX10_bits_18 (by decide) rfl rfl (by omega) (by omega) lss_3_2 ?_
  refine z_goto (tgt := 4) dX10_bits_21 (by decide) ?_
  refine z_iload_n dX10_bits_4 rfl ?_
  refine z_bipush dX10_bits_5 ⟨by decide, by decide⟩ ?_
  refine z_icmp_ge (tgt := 24) dX10_bits_7 (by decide) (fun q => False.elim (by omega)) (fun _ => ?_)
  refine z_iload_n dX10_bits_10 rfl ?_
  refine z_iload_n dX10_bits_11 rfl ?_
  refine z_iload_n dX10_bits_12 rfl ?_
  refine z_ishr dX10_bits_13 ?_
  refine z_iconst dX10_bits_14 ⟨by decide, by decide⟩ ?_
  refine z_iand dX10_bits_15 ?_
  refine y_iadd dX10_bits_16 (by omega) (by omega) ?_
  refine z_istore_n dX10_bits_17 (by decide) rfl lss_3_1 ?_
  refine y_iinc dX10_bits_18 (by decide) rfl rfl (by omega) (by omega) lss_3_2 ?_
  refine z_goto (tgt := 4) dX10_bits_21 (by decide) ?_
  refine z_iload_n dX10_bits_4 rfl ?_
  refine z_bipush dX10_bits_5 ⟨by decide, by decide⟩ ?_
  refine z_icmp_ge (tgt := 24) dX10_bits_7 (by decide) (fun q => False.elim (by omega)) (fun _ => ?_)
  refine z_iload_n dX10_bits_10 rfl ?_
  refine z_iload_n dX10_bits_11 rfl ?_
  refine z_iload_n dX10_bits_12 rfl ?_
  refine z_ishr dX10_bits_13 ?_
  refine z_iconst dX10_bits_14 ⟨by decide, by decide⟩ ?_
  refine z_iand dX10_bits_15 ?_
  refine y_iadd dX10_bits_16 (by omega) (by omega) ?_
  refine z_istore_n dX10_bits_17 (by decide) rfl lss_3_1 ?_
  refine y_iinc dX10_bits_18 (by decide) rfl rfl (by omega) (by omega) lss_3_2 ?_
  refine z_goto (tgt := 4) dX10_bits_21 (by decide) ?_
  refine z_iload_n dX10_bits_4 rfl ?_
  refine z_bipush dX10_bits_5 ⟨by decide, by decide⟩ ?_
  refine z_icmp_ge (tgt := 24) dX10_bits_7 (by decide) (fun q => False.elim (by omega)) (fun _ => ?_)
  refine z_iload_n dX10_bits_10 rfl ?_
  refine z_iload_n dX10_bits_11 rfl ?_
  refine z_iload_n dX10_bits_12 rfl ?_
  refine z_ishr dX10_bits_13 ?_
  refine z_iconst dX10_bits_14 ⟨by decide, by decide⟩ ?_
  refine z_iand dX10_bits_15 ?_
  refine y_iadd dX10_bits_16 (by omega) (by omega) ?_
  refine z_istore_n dX10_bits_17 (by decide) rfl lss_3_1 ?_
  refine y_iinc dX10_bits_18 (by decide) rfl rfl (by omega) (by omega) lss_3_2 ?_
  refine z_goto (tgt := 4) dX10_bits_21 (by decide) ?_
  refine z_iload_n dX10_bits_4 rfl ?_
  refine z_bipush dX10_bits_5 ⟨by decide, by decide⟩ ?_
  refine z_icmp_ge (tgt := 24) dX10_bits_7 (by decide) (fun q => False.elim (by omega)) (fun _ => ?_)
  refine z_iload_n dX10_bits_10 rfl ?_
  refine z_iload_n dX10_bits_11 rfl ?_
  refine z_iload_n dX10_bits_12 rfl ?_
  refine z_ishr dX10_bits_13 ?_
  refine z_iconst dX10_bits_14 ⟨by decide, by decide⟩ ?_
  refine z_iand dX10_bits_15 ?_
  refine y_iadd dX10_bits_16 (by omega) (by omega) ?_
  refine z_istore_n dX10_bits_17 (by decide) rfl lss_3_1 ?_
  refine y_iinc dX10_bits_18 (by decide) rfl rfl (by omega) (by omega) lss_3_2 ?_
  refine z_goto (tgt := 4) dX10_bits_21 (by decide) ?_
  refine z_iload_n dX10_bits_4 rfl ?_
  refine z_bipush dX10_bits_5 ⟨by decide, by decide⟩ ?_
  refine z_icmp_ge (tgt := 24) dX10_bits_7 (by decide) (fun q => False.elim (by omega)) (fun _ => ?_)
  refine z_iload_n dX10_bits_10 rfl ?_
  refine z_iload_n dX10_bits_11 rfl ?_
  refine z_iload_n dX10_bits_12 rfl ?_
  refine z_ishr dX10_bits_13 ?_
  refine z_iconst dX10_bits_14 ⟨by decide, by decide⟩ ?_
  refine z_iand dX10_bits_15 ?_
  refine y_iadd dX10_bits_16 (by omega) (by omega) ?_
  refine z_istore_n dX10_bits_17 (by decide) rfl lss_3_1 ?_
  refine y_iinc dX10_bits_18 (by decide) rfl rfl (by omega) (by omega) lss_3_2 ?_
  refine z_goto (tgt := 4) dX10_bits_21 (by decide) ?_
  refine z_iload_n dX10_bits_4 rfl ?_
  refine z_bipush dX10_bits_5 ⟨by decide, by decide⟩ ?_
  refine z_icmp_ge (tgt := 24) dX10_bits_7 (by decide) (fun _ => ?_) (fun q => False.elim (by omega))
  refine z_iload_n dX10_bits_24 rfl ?_
  refine z_ret (v := some (zi _)) dX10_bits_25 trivial (Nat.add_zero _).symm (Nat.add_zero _).symm rfl ?_
  rw [bits_ok s g0 g1]
  exact hQ
def bc1 (x : Int) : Int := w32 (x - band (bushr x 1) 1431655765)
def bc2 (x : Int) : Int := w32 (band x 858993459 + band (bushr x 2) 858993459)
def bc3 (x : Int) : Int := band (w32 (x + bushr x 4)) 252645135
def bc4 (x : Int) : Int := w32 (x + bushr x 8)
def bc5 (x : Int) : Int := w32 (x + bushr x 16)
theorem bc_ok : ∀ x : Int, 0 ≤ x → x < 64 → band (bc5 (bc4 (bc3 (bc2 (bc1 x))))) 63 = popc x := fin64 (by decide +kernel)
theorem qJ6_bitCount_0f7a4 {l : Launch} {S : zS} {h : zH} {Q : zQt} {s : Int} (g0 : 0 ≤ s) (g1 : s < 64) (hQ : Q (some (zi (popc s))) S h) : zC l mJ6_bitCount_0f7a4 [zi s] S h Q := by
  refine z_method kJ6_bitCount_0f7a4.1 rfl (Nat.le_of_ble_eq_true rfl) (fun hok hh => ?_)
  refine z_iload_n dJ6_bitCount_0f7a4_0 rfl ?_
  refine z_iload_n dJ6_bitCount_0f7a4_1 rfl ?_
  refine z_iconst dJ6_bitCount_0f7a4_2 ⟨by decide, by decide⟩ ?_
  refine z_iushr dJ6_bitCount_0f7a4_3 ?_
  refine z_ldcw dJ6_bitCount_0f7a4_4 kc_J6_265 ⟨by decide, by decide⟩ ?_
  refine z_iand dJ6_bitCount_0f7a4_7 ?_
  refine z_isub dJ6_bitCount_0f7a4_8 ?_
  refine z_istore_n dJ6_bitCount_0f7a4_9 (by decide) rfl lss_1_0 ?_
  refine z_iload_n dJ6_bitCount_0f7a4_10 rfl ?_
  refine z_ldcw dJ6_bitCount_0f7a4_11 kc_J6_266 ⟨by decide, by decide⟩ ?_
  refine z_iand dJ6_bitCount_0f7a4_14 ?_
  refine z_iload_n dJ6_bitCount_0f7a4_15 rfl ?_
  refine z_iconst dJ6_bitCount_0f7a4_16 ⟨by decide, by decide⟩ ?_
  refine z_iushr dJ6_bitCount_0f7a4_17 ?_
  refine z_ldcw dJ6_bitCount_0f7a4_18 kc_J6_266 ⟨by decide, by decide⟩ ?_
  refine z_iand dJ6_bitCount_0f7a4_21 ?_
  refine z_iadd dJ6_bitCount_0f7a4_22 ?_
  refine z_istore_n dJ6_bitCount_0f7a4_23 (by decide) rfl lss_1_0 ?_
  refine z_iload_n dJ6_bitCount_0f7a4_24 rfl ?_
  refine z_iload_n dJ6_bitCount_0f7a4_25 rfl ?_
  refine z_iconst dJ6_bitCount_0f7a4_26 ⟨by decide, by decide⟩ ?_
  refine z_iushr dJ6_bitCount_0f7a4_27 ?_
  refine z_iadd dJ6_bitCount_0f7a4_28 ?_
  refine z_ldcw dJ6_bitCount_0f7a4_29 kc_J6_267 ⟨by decide, by decide⟩ ?_
  refine z_iand dJ6_bitCount_0f7a4_32 ?_
  refine z_istore_n dJ6_bitCount_0f7a4_33 (by decide) rfl lss_1_0 ?_
  refine z_iload_n dJ6_bitCount_0f7a4_34 rfl ?_
  refine z_iload_n dJ6_bitCount_0f7a4_35 rfl ?_
  refine z_bipush dJ6_bitCount_0f7a4_36 ⟨by decide, by decide⟩ ?_
  refine z_iushr dJ6_bitCount_0f7a4_38 ?_
  refine z_iadd dJ6_bitCount_0f7a4_39 ?_
  refine z_istore_n dJ6_bitCount_0f7a4_40 (by decide) rfl lss_1_0 ?_
  refine z_iload_n dJ6_bitCount_0f7a4_41 rfl ?_
  refine z_iload_n dJ6_bitCount_0f7a4_42 rfl ?_
  refine z_bipush dJ6_bitCount_0f7a4_43 ⟨by decide, by decide⟩ ?_
  refine z_iushr dJ6_bitCount_0f7a4_45 ?_
  refine z_iadd dJ6_bitCount_0f7a4_46 ?_
  refine z_istore_n dJ6_bitCount_0f7a4_47 (by decide) rfl lss_1_0 ?_
  refine z_iload_n dJ6_bitCount_0f7a4_48 rfl ?_
  refine z_bipush dJ6_bitCount_0f7a4_49 ⟨by decide, by decide⟩ ?_
  refine z_iand dJ6_bitCount_0f7a4_51 ?_
  refine z_ret (v := some (zi _)) dJ6_bitCount_0f7a4_52 trivial (Nat.add_zero _).symm (Nat.add_zero _).symm rfl ?_
  have e := bc_ok s g0 g1
  rw [← e] at hQ
  exact hQ
