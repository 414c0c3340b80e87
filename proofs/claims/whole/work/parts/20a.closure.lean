/-! How far one comes by paths of so many steps; the edge. -/
def cstep (pa pb ps : Int → Int) (k p s : Int) : Int := if ps p ≤ k ∧ (hasb s (pa p) ∨ hasb s (pb p)) then bor s (bor (bshl 1 (pa p)) (bshl 1 (pb p))) else s
def cpass (pa pb ps : Int → Int) (k : Int) : Nat → Int → Int
  | 0, s => s
  | n + 1, s => cstep pa pb ps k n (cpass pa pb ps k n s)
def cit (pa pb ps : Int → Int) (k : Int) (P : Nat) : Nat → Int → Int
  | 0, s => s
  | n + 1, s => cpass pa pb ps k P (cit pa pb ps k P n s)
/-- how many of eight bits are set -/
def pop8 (x : Int) : Int := x % 2 + x / 2 % 2 + x / 4 % 2 + x / 8 % 2 + x / 16 % 2 + x / 32 % 2 + x / 64 % 2 + x / 128 % 2
theorem bor2 : ∀ x a b : Int, 0 ≤ x → x < 256 → 0 ≤ a → a < 8 → 0 ≤ b → b < 8 → (x ≤ bor x (bor (bshl 1 a) (bshl 1 b)) ∧ bor x (bor (bshl 1 a) (bshl 1 b)) < 256 ∧ (bor x (bor (bshl 1 a) (bshl 1 b)) = x ∨ pop8 x < pop8 (bor x (bor (bshl 1 a) (bshl 1 b)))) ∧ hasb (bor x (bor (bshl 1 a) (bshl 1 b))) a ∧ hasb (bor x (bor (bshl 1 a) (bshl 1 b))) b ∧ (band x (bor (bshl 1 a) (bshl 1 b)) = 0 ↔ ¬ (hasb x a ∨ hasb x b))) := by
  have := fin3 (P := fun x a b => x ≤ bor x (bor (bshl 1 a) (bshl 1 b)) ∧ bor x (bor (bshl 1 a) (bshl 1 b)) < 256 ∧ (bor x (bor (bshl 1 a) (bshl 1 b)) = x ∨ pop8 x < pop8 (bor x (bor (bshl 1 a) (bshl 1 b)))) ∧ hasb (bor x (bor (bshl 1 a) (bshl 1 b))) a ∧ hasb (bor x (bor (bshl 1 a) (bshl 1 b))) b ∧ (band x (bor (bshl 1 a) (bshl 1 b)) = 0 ↔ ¬ (hasb x a ∨ hasb x b))) (A := 256) (B := 8) (C := 8) (by decide +kernel)
  intro x a b x0 x1 a0 a1 b0 b1
  exact this x a b x0 x1 a0 a1 b0 b1
theorem cstep_r {pa pb ps : Int → Int} {k p s : Int} (s0 : 0 ≤ s) (s1 : s < 256) (ha : 0 ≤ pa p ∧ pa p < 8) (hb : 0 ≤ pb p ∧ pb p < 8) : s ≤ cstep pa pb ps k p s ∧ cstep pa pb ps k p s < 256 ∧ (cstep pa pb ps k p s = s ∨ pop8 s < pop8 (cstep pa pb ps k p s)) := by
  unfold cstep
  split
  · have := bor2 s (pa p) (pb p) s0 s1 ha.1 ha.2 hb.1 hb.2
    exact ⟨this.1, this.2.1, this.2.2.1⟩
  · exact ⟨Int.le_refl _, s1, Or.inl rfl⟩
theorem cpass_r {pa pb ps : Int → Int} {k s : Int} {P : Nat} (hp : ∀ p : Int, 0 ≤ p → p < (P : Int) → (0 ≤ pa p ∧ pa p < 8) ∧ (0 ≤ pb p ∧ pb p < 8)) (s0 : 0 ≤ s) (s1 : s < 256) : ∀ n : Nat, n ≤ P → s ≤ cpass pa pb ps k n s ∧ cpass pa pb ps k n s < 256 ∧ (cpass pa pb ps k n s = s ∨ pop8 s < pop8 (cpass pa pb ps k n s)) := by
  intro n
  induction n with
  | zero => intro _; exact ⟨Int.le_refl _, s1, Or.inl rfl⟩
  | succ n ih =>
    intro hn
    have a := ih (by omega)
    have q := hp n (by omega) (by omega)
    have b := cstep_r (pa := pa) (pb := pb) (ps := ps) (k := k) (p := n) (s := cpass pa pb ps k n s) (by omega) a.2.1 q.1 q.2
    show s ≤ cstep pa pb ps k n (cpass pa pb ps k n s) ∧ cstep pa pb ps k n (cpass pa pb ps k n s) < 256 ∧ (cstep pa pb ps k n (cpass pa pb ps k n s) = s ∨ pop8 s < pop8 (cstep pa pb ps k n (cpass pa pb ps k n s)))
    refine ⟨by omega, b.2.1, ?_⟩
    rcases a.2.2 with x | x <;> rcases b.2.2 with z | z
    · left; rw [z, x]
    · right; rw [x] at z ⊢; exact z
    · right; rw [z]; exact x
    · right; omega
theorem cit_r {pa pb ps : Int → Int} {k s : Int} {P : Nat} (hp : ∀ p : Int, 0 ≤ p → p < (P : Int) → (0 ≤ pa p ∧ pa p < 8) ∧ (0 ≤ pb p ∧ pb p < 8)) (s0 : 0 ≤ s) (s1 : s < 256) : ∀ n : Nat, 0 ≤ cit pa pb ps k P n s ∧ cit pa pb ps k P n s < 256 := by
  intro n
  induction n with
  | zero => exact ⟨s0, s1⟩
  | succ n ih =>
    have a := cpass_r (ps := ps) (k := k) hp ih.1 ih.2 P (by omega)
    exact ⟨Int.le_trans ih.1 a.1, a.2.1⟩

