/-! Sets of few bits. -/
theorem fin2 {P : Int → Int → Prop} {A B : Nat} (h : ∀ (x : Fin A) (y : Fin B), P (x.val : Int) (y.val : Int)) : ∀ x y : Int, 0 ≤ x → x < A → 0 ≤ y → y < B → P x y := by
  intro x y x0 x1 y0 y1
  have := h ⟨x.toNat, by omega⟩ ⟨y.toNat, by omega⟩
  simp only at this
  rw [Int.toNat_of_nonneg x0, Int.toNat_of_nonneg y0] at this
  exact this
theorem fin3 {P : Int → Int → Int → Prop} {A B C : Nat} (h : ∀ (x : Fin A) (y : Fin B) (z : Fin C), P (x.val : Int) (y.val : Int) (z.val : Int)) : ∀ x y z : Int, 0 ≤ x → x < A → 0 ≤ y → y < B → 0 ≤ z → z < C → P x y z := by
  intro x y z x0 x1 y0 y1 z0 z1
  have := h ⟨x.toNat, by omega⟩ ⟨y.toNat, by omega⟩ ⟨z.toNat, by omega⟩
  simp only at this
  rw [Int.toNat_of_nonneg x0, Int.toNat_of_nonneg y0, Int.toNat_of_nonneg z0] at this
  exact this
theorem bor_0 {x : Int} (h : r32 x) : bor x 0 = x := by
  unfold bor
  rw [show Int32.ofInt 0 = 0 by decide, Int32.or_zero, of_toInt h]
theorem bshl_pw : ∀ k : Int, 0 ≤ k → k < 9 → bshl 1 k = pw k := by
  intro k k0 k1
  have := fin2 (P := fun x _ => bshl 1 x = pw x) (A := 9) (B := 1) (by decide +kernel) k 0 k0 (by omega) (by omega) (by omega)
  exact this
theorem bor_new : ∀ x k : Int, 0 ≤ x → x < 256 → 0 ≤ k → k < 8 → x < pw k → bor x (pw k) = x + pw k := by
  have := fin2 (P := fun x k => x < pw k → bor x (pw k) = x + pw k) (A := 256) (B := 8) (by decide +kernel)
  intro x k x0 x1 k0 k1
  exact this x k x0 x1 k0 k1
theorem pw_succ (n : Nat) : pw ((n + 1 : Nat) : Int) = 2 * pw (n : Int) := by
  unfold pw
  rw [Int.toNat_natCast, Int.toNat_natCast, Int.pow_succ]
  omega
theorem pw_mono {a b : Int} (h : a ≤ b) : pw a ≤ pw b := by
  unfold pw
  have : a.toNat ≤ b.toNat := by omega
  have := Nat.pow_le_pow_right (show 0 < 2 by decide) this
  exact_mod_cast this
theorem pw8 {n : Int} (h : n ≤ 8) : pw n ≤ 256 := by
  have := pw_mono h
  have e : pw 8 = 256 := by decide
  omega
/-- the set of those below n for which f holds -/
def bset (f : Int → Bool) : Nat → Int
  | 0 => 0
  | n + 1 => if f n then bor (bset f n) (bshl 1 n) else bset f n
theorem bset_r {f : Int → Bool} : ∀ n : Nat, n ≤ 8 → 0 ≤ bset f n ∧ bset f n < pw n := by
  intro n
  induction n with
  | zero => intro _; exact ⟨Int.le_refl 0, show (0 : Int) < pw ((0 : Nat) : Int) by decide⟩
  | succ n ih =>
    intro hn
    have h1 := ih (by omega)
    have h2 := pw8 (n := (n : Int)) (by omega)
    have h3 := pw_succ n
    unfold bset
    split
    · rw [bshl_pw n (by omega) (by omega), bor_new _ _ h1.1 (by omega) (by omega) (by omega) h1.2]
      omega
    · omega
theorem bset_32 {f : Int → Bool} {n : Nat} (h : n ≤ 8) : r32 (bset f n) := by
  have h1 := bset_r (f := f) n h
  have h2 := pw8 (n := (n : Int)) (by omega)
  unfold r32
  omega
theorem has_new : ∀ x k j : Int, 0 ≤ x → x < 256 → 0 ≤ k → k < 8 → 0 ≤ j → j < 8 → (hasb (bor x (pw k)) j ↔ (hasb x j ∨ j = k)) := by
  have := fin3 (P := fun x k j => hasb (bor x (pw k)) j ↔ (hasb x j ∨ j = k)) (A := 256) (B := 8) (C := 8) (by decide +kernel)
  intro x k j x0 x1 k0 k1 j0 j1
  exact this x k j x0 x1 k0 k1 j0 j1
theorem has_hi : ∀ x j : Int, 0 ≤ x → x < 256 → 0 ≤ j → j < 8 → x < pw j → ¬ hasb x j := by
  have := fin2 (P := fun x j => x < pw j → ¬ hasb x j) (A := 256) (B := 8) (by decide +kernel)
  intro x j x0 x1 j0 j1
  exact this x j x0 x1 j0 j1
theorem bset_has {f : Int → Bool} : ∀ n : Nat, n ≤ 8 → ∀ j : Int, 0 ≤ j → j < 8 → (hasb (bset f n) j ↔ (j < n ∧ f j = true)) := by
  intro n
  induction n with
  | zero =>
    intro _ j j0 j1
    have := has_hi 0 j (by omega) (by omega) j0 j1 (by have := pw_pos j; omega)
    constructor
    · intro q; exact absurd q this
    · intro q; omega
  | succ n ih =>
    intro hn j j0 j1
    have h1 := bset_r (f := f) n (by omega)
    have h2 := pw8 (n := (n : Int)) (by omega)
    have h4 := ih (by omega) j j0 j1
    unfold bset
    by_cases hf : f n = true
    · rw [if_pos hf, bshl_pw n (by omega) (by omega), has_new _ _ _ h1.1 (by omega) (by omega) (by omega) j0 j1, h4]
      constructor
      · rintro (q | q)
        · exact ⟨by omega, q.2⟩
        · subst q; exact ⟨by omega, hf⟩
      · intro q
        by_cases hj : j = n
        · exact Or.inr hj
        · exact Or.inl ⟨by omega, q.2⟩
    · rw [if_neg hf, h4]
      constructor
      · intro q; exact ⟨by omega, q.2⟩
      · intro q
        refine ⟨?_, q.2⟩
        by_cases hj : j = n
        · subst hj; exact absurd q.2 hf
        · omega
theorem bits_sum : ∀ x : Int, 0 ≤ x → x < 256 → x = (if hasb x 0 then 1 else 0) + 2 * (if hasb x 1 then 1 else 0) + 4 * (if hasb x 2 then 1 else 0) + 8 * (if hasb x 3 then 1 else 0) + 16 * (if hasb x 4 then 1 else 0) + 32 * (if hasb x 5 then 1 else 0) + 64 * (if hasb x 6 then 1 else 0) + 128 * (if hasb x 7 then 1 else 0) := by
  have := fin2 (P := fun x _ => x = (if hasb x 0 then 1 else 0) + 2 * (if hasb x 1 then 1 else 0) + 4 * (if hasb x 2 then 1 else 0) + 8 * (if hasb x 3 then 1 else 0) + 16 * (if hasb x 4 then 1 else 0) + 32 * (if hasb x 5 then 1 else 0) + 64 * (if hasb x 6 then 1 else 0) + 128 * (if hasb x 7 then 1 else 0)) (A := 256) (B := 1) (by decide +kernel)
  intro x x0 x1
  exact this x 0 x0 x1 (by omega) (by omega)
theorem bits_ext : ∀ x y : Int, 0 ≤ x → x < 256 → 0 ≤ y → y < 256 → (∀ j : Int, 0 ≤ j → j < 8 → (hasb x j ↔ hasb y j)) → x = y := by
  intro x y x0 x1 y0 y1 hj
  have e : ∀ j : Int, 0 ≤ j → j < 8 → (if hasb x j then (1 : Int) else 0) = (if hasb y j then 1 else 0) := fun j j0 j1 => by
    by_cases hx : hasb x j
    · rw [if_pos hx, if_pos ((hj j j0 j1).mp hx)]
    · rw [if_neg hx, if_neg (fun q => hx ((hj j j0 j1).mpr q))]
  rw [bits_sum x x0 x1, bits_sum y y0 y1, e 0 (by omega) (by omega), e 1 (by omega) (by omega), e 2 (by omega) (by omega), e 3 (by omega) (by omega), e 4 (by omega) (by omega), e 5 (by omega) (by omega), e 6 (by omega) (by omega), e 7 (by omega) (by omega)]
theorem bset_congr {f f' : Int → Bool} : ∀ n : Nat, (∀ d : Int, 0 ≤ d → d < n → f d = f' d) → bset f n = bset f' n := by
  intro n
  induction n with
  | zero => intro _; rfl
  | succ n ih =>
    intro hf
    unfold bset
    rw [ih (fun d d0 d1 => hf d d0 (by omega)), hf n (by omega) (by omega)]
theorem band_has : ∀ x y j : Int, 0 ≤ x → x < 64 → 0 ≤ y → y < 64 → 0 ≤ j → j < 8 → (hasb (band x y) j ↔ (hasb x j ∧ hasb y j)) := by
  have := fin3 (P := fun x y j => hasb (band x y) j ↔ (hasb x j ∧ hasb y j)) (A := 64) (B := 64) (C := 8) (by decide +kernel)
  intro x y j x0 x1 y0 y1 j0 j1
  exact this x y j x0 x1 y0 y1 j0 j1
theorem band_r : ∀ x y : Int, 0 ≤ x → x < 64 → 0 ≤ y → y < 64 → 0 ≤ band x y ∧ band x y ≤ x ∧ band x y ≤ y := by
  have := fin2 (P := fun x y => 0 ≤ band x y ∧ band x y ≤ x ∧ band x y ≤ y) (A := 64) (B := 64) (by decide +kernel)
  intro x y x0 x1 y0 y1
  exact this x y x0 x1 y0 y1
theorem bnot_has : ∀ x y j : Int, 0 ≤ x → x < 64 → 0 ≤ y → y < 64 → 0 ≤ j → j < 8 → (hasb (band x (bxor y (-1))) j ↔ (hasb x j ∧ ¬ hasb y j)) := by
  have := fin3 (P := fun x y j => hasb (band x (bxor y (-1))) j ↔ (hasb x j ∧ ¬ hasb y j)) (A := 64) (B := 64) (C := 8) (by decide +kernel)
  intro x y j x0 x1 y0 y1 j0 j1
  exact this x y j x0 x1 y0 y1 j0 j1
theorem bnot_r : ∀ x y : Int, 0 ≤ x → x < 64 → 0 ≤ y → y < 64 → 0 ≤ band x (bxor y (-1)) ∧ band x (bxor y (-1)) ≤ x := by
  have := fin2 (P := fun x y => 0 ≤ band x (bxor y (-1)) ∧ band x (bxor y (-1)) ≤ x) (A := 64) (B := 64) (by decide +kernel)
  intro x y x0 x1 y0 y1
  exact this x y x0 x1 y0 y1
theorem bor_has : ∀ x y j : Int, 0 ≤ x → x < 64 → 0 ≤ y → y < 64 → 0 ≤ j → j < 8 → (hasb (bor x y) j ↔ (hasb x j ∨ hasb y j)) := by
  have := fin3 (P := fun x y j => hasb (bor x y) j ↔ (hasb x j ∨ hasb y j)) (A := 64) (B := 64) (C := 8) (by decide +kernel)
  intro x y j x0 x1 y0 y1 j0 j1
  exact this x y j x0 x1 y0 y1 j0 j1
theorem bor_r : ∀ x y n : Int, 0 ≤ x → x < 64 → 0 ≤ y → y < 64 → 0 ≤ n → n < 7 → (x ≤ bor x y ∧ y ≤ bor x y ∧ (x < pw n → y < pw n → bor x y < pw n)) := by
  have := fin3 (P := fun x y n => x ≤ bor x y ∧ y ≤ bor x y ∧ (x < pw n → y < pw n → bor x y < pw n)) (A := 64) (B := 64) (C := 7) (by decide +kernel)
  intro x y n x0 x1 y0 y1 n0 n1
  exact this x y n x0 x1 y0 y1 n0 n1
theorem popc_grow : ∀ x k : Int, 0 ≤ x → x < 64 → 0 ≤ k → k < 6 → (bor x (pw k) = x ∨ popc (bor x (pw k)) = popc x + 1) := by
  have := fin2 (P := fun x k => bor x (pw k) = x ∨ popc (bor x (pw k)) = popc x + 1) (A := 64) (B := 6) (by decide +kernel)
  intro x k x0 x1 k0 k1
  exact this x k x0 x1 k0 k1
theorem popc_le : ∀ x n : Int, 0 ≤ x → x < 64 → 0 ≤ n → n < 7 → x < pw n → (popc x ≤ n ∧ (popc x = n → x = pw n - 1)) := by
  have := fin2 (P := fun x n => x < pw n → (popc x ≤ n ∧ (popc x = n → x = pw n - 1))) (A := 64) (B := 7) (by decide +kernel)
  intro x n x0 x1 n0 n1
  exact this x n x0 x1 n0 n1
theorem popc_band : ∀ x y n : Int, 0 ≤ x → x < 64 → 0 ≤ y → y < 64 → 0 ≤ n → n < 7 → y < pw n → popc (band x y) = sumN (fun d => if hasb x d ∧ hasb y d then 1 else 0) n.toNat := by
  have := fin3 (P := fun x y n => y < pw n → popc (band x y) = sumN (fun d => if hasb x d ∧ hasb y d then 1 else 0) n.toNat) (A := 64) (B := 64) (C := 7) (by decide +kernel)
  intro x y n x0 x1 y0 y1 n0 n1
  exact this x y n x0 x1 y0 y1 n0 n1
