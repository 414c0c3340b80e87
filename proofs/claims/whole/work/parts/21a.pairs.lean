/-! Pairs: the table of sets. -/
/-- the heap with f in the first n places of row A -/
def har (h : zH) (A : Int) (n : Nat) (f : Int → Int) : zH := fun a b => if a = A ∧ 0 ≤ b ∧ b < n then f b else h a b
theorem har_ne {h : zH} {f : Int → Int} {A a b : Int} {n : Nat} (ha : a ≠ A) : har h A n f a b = h a b := by
  unfold har
  rw [if_neg (fun q => ha q.1)]
theorem har_at {h : zH} {f : Int → Int} {A b : Int} {n : Nat} (h0 : 0 ≤ b) (h1 : b < n) : har h A n f A b = f b := by
  unfold har
  rw [if_pos ⟨rfl, h0, h1⟩]
theorem har_up {h : zH} {f : Int → Int} {A k v : Int} {n : Nat} (h0 : 0 ≤ k) (h1 : k < n) : zup (har h A n f) A k v = har h A n (fu f k v) := by
  funext a b
  unfold zup har fu
  by_cases ha : a = A
  · by_cases hb : b = k
    · rw [if_pos ⟨ha, hb⟩, if_pos ⟨ha, by omega, by omega⟩, if_pos hb]
    · rw [if_neg (fun q => hb q.2), if_neg hb]
  · rw [if_neg (fun q => ha q.1), if_neg (fun q => ha q.1), if_neg (fun q => ha q.1)]
theorem har_self (h : zH) (A : Int) (n : Nat) : har h A n (h A) = h := by
  funext a b
  unfold har
  split
  · next q => rw [q.1]
  · rfl
theorem fu_at (f : Int → Int) (k v : Int) : fu f k v k = v := by unfold fu; rw [if_pos rfl]
theorem fu_ne {f : Int → Int} {k v b : Int} (h : b ≠ k) : fu f k v b = f b := by unfold fu; rw [if_neg h]
theorem fu_fu (f : Int → Int) (k v u : Int) : fu (fu f k v) k u = fu f k u := by
  funext b
  unfold fu
  split <;> rfl
def clr (s a : Int) : Int := band s (bxor (bshl 1 a) (-1))
theorem clr_r : ∀ s a : Int, 0 ≤ s → s < 64 → 0 ≤ a → a < 6 → (0 ≤ clr s a ∧ clr s a ≤ s ∧ (hasb s a → clr s a < s) ∧ ¬ hasb (clr s a) a) := by
  have := fin2 (P := fun s a => 0 ≤ clr s a ∧ clr s a ≤ s ∧ (hasb s a → clr s a < s) ∧ ¬ hasb (clr s a) a) (A := 64) (B := 6) (by decide +kernel)
  intro s a s0 s1 a0 a1
  exact this s a s0 s1 a0 a1
theorem clr_has : ∀ s a j : Int, 0 ≤ s → s < 64 → 0 ≤ a → a < 6 → 0 ≤ j → j < 8 → (hasb (clr s a) j ↔ (hasb s j ∧ j ≠ a)) := by
  have := fin3 (P := fun s a j => hasb (clr s a) j ↔ (hasb s j ∧ j ≠ a)) (A := 64) (B := 6) (C := 8) (by decide +kernel)
  intro s a j s0 s1 a0 a1 j0 j1
  exact this s a j s0 s1 a0 a1 j0 j1
theorem has_pw : ∀ s n j : Int, 0 ≤ s → s < 64 → 0 ≤ n → n < 7 → 0 ≤ j → j < 8 → s < pw n → hasb s j → j < n := by
  have := fin3 (P := fun s n j => s < pw n → hasb s j → j < n) (A := 64) (B := 7) (C := 8) (by decide +kernel)
  intro s n j s0 s1 n0 n1 j0 j1
  exact this s n j s0 s1 n0 n1 j0 j1
theorem all_has : ∀ n j : Int, 0 ≤ n → n < 7 → 0 ≤ j → j < 8 → (hasb (pw n - 1) j ↔ j < n) := by
  have := fin2 (P := fun n j => hasb (pw n - 1) j ↔ j < n) (A := 7) (B := 8) (by decide +kernel)
  intro n j n0 n1 j0 j1
  exact this n j n0 n1 j0 j1
/-- the lowest of a set -/
def low (s : Int) : Int := fsN (fun k => decide (hasb s k)) 6 0
theorem low_ok : ∀ s : Int, 0 < s → s < 64 → (0 ≤ low s ∧ low s < 6 ∧ hasb s (low s)) := by
  have := fin2 (P := fun s _ => 0 < s → (0 ≤ low s ∧ low s < 6 ∧ hasb s (low s))) (A := 64) (B := 1) (by decide +kernel)
  intro s s0 s1
  exact this s 0 (by omega) s1 (by omega) (by omega) s0
theorem band_m1 {x : Int} (h : r32 x) : band x (-1) = x := by
  unfold band
  rw [show Int32.ofInt (-1) = -1 by decide, Int32.and_neg_one, of_toInt h]
def pacc (fit : Int → Int → Bool) (t : Int → Int) (s a v0 : Int) : Nat → Int
  | 0 => v0
  | n + 1 => if hasb s (a + 1 + n) ∧ fit a (a + 1 + n) = true then max (pacc fit t s a v0 n) (1 + t (clr (clr s a) (a + 1 + n))) else pacc fit t s a v0 n
def pval (fit : Int → Int → Bool) (D : Int) (t : Int → Int) (s : Int) : Int := if s = 0 then 0 else pacc fit t s (low s) (t (clr s (low s))) (D - (low s + 1)).toNat
/-- the table is right below n -/
def TabN (fit : Int → Int → Bool) (D : Int) (t : Int → Int) (n : Int) : Prop := ∀ s, 0 ≤ s → s < n → t s = pval fit D t s ∧ 0 ≤ t s ∧ t s ≤ s
theorem pacc_t {fit : Int → Int → Bool} {t : Int → Int} {s a v0 : Int} {n : Nat} (hc : hasb s (a + 1 + n) ∧ fit a (a + 1 + n) = true) : pacc fit t s a v0 (n + 1) = max (pacc fit t s a v0 n) (1 + t (clr (clr s a) (a + 1 + n))) := if_pos hc
theorem pacc_f {fit : Int → Int → Bool} {t : Int → Int} {s a v0 : Int} {n : Nat} (hc : ¬ (hasb s (a + 1 + n) ∧ fit a (a + 1 + n) = true)) : pacc fit t s a v0 (n + 1) = pacc fit t s a v0 n := if_neg hc
theorem pacc_r {fit : Int → Int → Bool} {t : Int → Int} {s a v0 : Int} (s0 : 0 ≤ s) (s1 : s < 64) (a0 : 0 ≤ a) (a1 : a < 6) (ha : hasb s a ∨ s = 0) (hv : 0 ≤ v0 ∧ v0 ≤ s) (ht : ∀ x, 0 ≤ x → x < s → 0 ≤ t x ∧ t x ≤ x) : ∀ n : Nat, a + 1 + n ≤ 6 → 0 ≤ pacc fit t s a v0 n ∧ pacc fit t s a v0 n ≤ s := by
  intro n
  induction n with
  | zero => intro _; exact hv
  | succ n ih =>
    intro hn
    have b := ih (by omega)
    by_cases hc : hasb s (a + 1 + n) ∧ fit a (a + 1 + n) = true
    · rw [pacc_t hc]
      have c1 := clr_r s a s0 s1 a0 a1
      have c2 := clr_r (clr s a) (a + 1 + n) c1.1 (by omega) (by omega) (by omega)
      have hs : ¬ s = 0 := fun z => by
        have := has_hi s (a + 1 + n) s0 (by omega) (by omega) (by omega) (by rw [z]; have := pw_pos (a + 1 + n); omega)
        exact this hc.1
      have hlt := c1.2.2.1 (ha.elim id (fun z => absurd z hs))
      have h2 : hasb (clr s a) (a + 1 + n) := (clr_has s a (a + 1 + n) s0 s1 a0 a1 (by omega) (by omega)).mpr ⟨hc.1, by omega⟩
      have hlt2 := c2.2.2.1 h2
      have := ht (clr (clr s a) (a + 1 + n)) c2.1 (by omega)
      omega
    · rw [pacc_f hc]; exact b
theorem pacc_congr {fit : Int → Int → Bool} {t t' : Int → Int} {s a v0 : Int} (s0 : 0 ≤ s) (s1 : s < 64) (a0 : 0 ≤ a) (a1 : a < 6) (ha : hasb s a ∨ s = 0) (ht : ∀ x, 0 ≤ x → x < s → t x = t' x) : ∀ n : Nat, a + 1 + n ≤ 6 → pacc fit t s a v0 n = pacc fit t' s a v0 n := by
  intro n
  induction n with
  | zero => intro _; rfl
  | succ n ih =>
    intro hn
    have b := ih (by omega)
    by_cases hc : hasb s (a + 1 + n) ∧ fit a (a + 1 + n) = true
    · rw [pacc_t hc, pacc_t hc, b]
      have c1 := clr_r s a s0 s1 a0 a1
      have c2 := clr_r (clr s a) (a + 1 + n) c1.1 (by omega) (by omega) (by omega)
      have hs : ¬ s = 0 := fun z => by
        have := has_hi s (a + 1 + n) s0 (by omega) (by omega) (by omega) (by rw [z]; have := pw_pos (a + 1 + n); omega)
        exact this hc.1
      have hlt := c1.2.2.1 (ha.elim id (fun z => absurd z hs))
      rw [ht (clr (clr s a) (a + 1 + n)) c2.1 (by omega)]
    · rw [pacc_f hc, pacc_f hc, b]
theorem pval_congr {fit : Int → Int → Bool} {D : Int} {t t' : Int → Int} {s : Int} (hD : D ≤ 6) (s0 : 0 ≤ s) (s1 : s < 64) (ht : ∀ x, 0 ≤ x → x < s → t x = t' x) : pval fit D t s = pval fit D t' s := by
  unfold pval
  by_cases hs : s = 0
  · rw [if_pos hs, if_pos hs]
  · rw [if_neg hs, if_neg hs]
    have l := low_ok s (by omega) s1
    have c := clr_r s (low s) s0 s1 l.1 l.2.1
    rw [ht (clr s (low s)) c.1 (c.2.2.1 l.2.2)]
    exact pacc_congr s0 s1 l.1 l.2.1 (Or.inl l.2.2) ht _ (by omega)
theorem TabN_fu {fit : Int → Int → Bool} {D : Int} {t : Int → Int} {n v : Int} (hD : D ≤ 6) (n0 : 0 ≤ n) (n1 : n < 64) (h : TabN fit D t n) (hv : v = pval fit D t n) (hr : 0 ≤ v ∧ v ≤ n) : TabN fit D (fu t n v) (n + 1) := by
  intro s s0 s1
  by_cases e : s = n
  · subst e
    rw [fu_at, pval_congr (t' := t) hD n0 n1 (fun x _ x1 => fu_ne (by omega))]
    exact ⟨hv, hr⟩
  · rw [fu_ne e, pval_congr (t' := t) hD s0 (by omega) (fun x _ x1 => fu_ne (by omega))]
    exact h s s0 (by omega)
theorem TabN_one {fit : Int → Int → Bool} {D : Int} {t t' : Int → Int} {N : Int} (hD : D ≤ 6) (hN : N ≤ 64) (h : TabN fit D t N) (h' : TabN fit D t' N) : ∀ (n : Nat) (s : Int), 0 ≤ s → s < N → s < n → t s = t' s := by
  intro n
  induction n with
  | zero => intro s s0 _ s1; omega
  | succ n ih =>
    intro s s0 sN s1
    rw [(h s s0 sN).1, (h' s s0 sN).1]
    exact pval_congr hD s0 (by omega) (fun x x0 x1 => ih x x0 (by omega) (by omega))
/-- THE table -/
noncomputable def tabC (fit : Int → Int → Bool) (D : Int) : Int → Int := Classical.epsilon (fun t => TabN fit D t (pw D))
theorem tabC_eq {fit : Int → Int → Bool} {D : Int} {t : Int → Int} (hD : D ≤ 6) (h : TabN fit D t (pw D)) {s : Int} (s0 : 0 ≤ s) (s1 : s < pw D) : t s = tabC fit D s := by
  have p := pw_le hD
  exact TabN_one hD p h (Classical.epsilon_spec (p := fun t => TabN fit D t (pw D)) ⟨t, h⟩) 64 s s0 s1 (by omega)
theorem tabC_r {fit : Int → Int → Bool} {D : Int} {t : Int → Int} (h : TabN fit D t (pw D)) {s : Int} (s0 : 0 ≤ s) (s1 : s < pw D) : 0 ≤ tabC fit D s ∧ tabC fit D s ≤ s :=
  ((Classical.epsilon_spec (p := fun t => TabN fit D t (pw D)) ⟨t, h⟩) s s0 s1).2
/-- the mate of a, of those who are left -/
def mateC (fit : Int → Int → Bool) (t : Int → Int) (D left a : Int) : Int := fsN (fun b => decide (hasb left b) && (fit a b && decide (1 + t (clr (clr left a) b) = t left))) (D - (a + 1)).toNat (a + 1)
/-- who is left behind a -/
def leftC (fit : Int → Int → Bool) (t : Int → Int) (D left a : Int) : Int := if hasb left a then (if mateC fit t D left a = -9 then clr left a else clr (clr left a) (mateC fit t D left a)) else left
def pfC (fit : Int → Int → Bool) (t : Int → Int) (D d : Int) : Nat → Int → Int → Int
  | 0, _, _ => -9
  | n + 1, a, left => if hasb left a then (if a = d then mateC fit t D left a else if mateC fit t D left a = d then a else pfC fit t D d n (a + 1) (leftC fit t D left a)) else pfC fit t D d n (a + 1) (leftC fit t D left a)
