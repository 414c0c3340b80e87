/-! Two by two: class and reference answer alike. -/
theorem eq_fit {g c m : zH} {t : Int} (R : Rel g c m t) (hm : MB m) {a b : Int} (a0 : 0 ≤ a) (a1 : a < m 240 3) (b0 : 0 ≤ b) (b1 : b < m 240 3) : fitC c t a b = fitB m a b := by
  unfold fitC fitB
  rw [(R.n0 hm a0 a1).2.1, (R.n0 hm b0 b1).2.1, (R.1.2.2.1 a a0 a1).1, (R.1.2.2.1 b b0 b1).1]
def FE (F F' : Int → Int → Bool) (D : Int) : Prop := ∀ a b, 0 ≤ a → a < D → 0 ≤ b → b < D → F a b = F' a b
theorem pacc_fit {F F' : Int → Int → Bool} {D : Int} (e : FE F F' D) {t : Int → Int} {s a v0 : Int} (a0 : 0 ≤ a) : ∀ n : Nat, a + 1 + n ≤ D → pacc F t s a v0 n = pacc F' t s a v0 n := by
  intro n
  induction n with
  | zero => intro _; rfl
  | succ n ih =>
    intro hn
    have q := ih (by omega)
    have w := e a (a + 1 + n) a0 (by omega) (by omega) (by omega)
    show (if hasb s (a + 1 + n) ∧ F a (a + 1 + n) = true then max (pacc F t s a v0 n) (1 + t (clr (clr s a) (a + 1 + n))) else pacc F t s a v0 n) = (if hasb s (a + 1 + n) ∧ F' a (a + 1 + n) = true then max (pacc F' t s a v0 n) (1 + t (clr (clr s a) (a + 1 + n))) else pacc F' t s a v0 n)
    rw [q, w]
theorem pval_fit {F F' : Int → Int → Bool} {D : Int} (e : FE F F' D) (hD : 0 ≤ D ∧ D ≤ 6) {t : Int → Int} {s : Int} (s0 : 0 ≤ s) (s1 : s < pw D) : pval F D t s = pval F' D t s := by
  have p6 := pw_le (n := D) (by omega)
  unfold pval
  by_cases z : s = 0
  · rw [if_pos z, if_pos z]
  · rw [if_neg z, if_neg z]
    have q := low_ok s (by omega) (by omega)
    have w := has_pw s D (low s) s0 (by omega) hD.1 (by omega) q.1 (by omega) s1 q.2.2
    exact pacc_fit e q.1 _ (by omega)
theorem TabN_fit {F F' : Int → Int → Bool} {D : Int} (e : FE F F' D) (hD : 0 ≤ D ∧ D ≤ 6) : (fun t => TabN F D t (pw D)) = (fun t => TabN F' D t (pw D)) := by
  funext t
  refine propext ⟨fun h s s0 s1 => ?_, fun h s s0 s1 => ?_⟩
  · rw [← pval_fit e hD s0 s1]; exact h s s0 s1
  · rw [pval_fit e hD s0 s1]; exact h s s0 s1
theorem tabC_fit {F F' : Int → Int → Bool} {D : Int} (e : FE F F' D) (hD : 0 ≤ D ∧ D ≤ 6) : tabC F D = tabC F' D := by
  unfold tabC
  rw [TabN_fit e hD]
theorem fsN_congr {f f' : Int → Bool} : ∀ (n : Nat) (k : Int), (∀ b, k ≤ b → b < k + n → f b = f' b) → fsN f n k = fsN f' n k := by
  intro n
  induction n with
  | zero => intro k _; rfl
  | succ n ih =>
    intro k e
    show (if f k then k else fsN f n (k + 1)) = (if f' k then k else fsN f' n (k + 1))
    rw [e k (by omega) (by omega), ih (k + 1) (fun b b0 b1 => e b (by omega) (by omega))]
theorem fsN_sat {f : Int → Bool} : ∀ (n : Nat) (k : Int), fsN f n k = -9 ∨ f (fsN f n k) = true := by
  intro n
  induction n with
  | zero => intro k; exact Or.inl rfl
  | succ n ih =>
    intro k
    have e : fsN f (n + 1) k = if f k then k else fsN f n (k + 1) := rfl
    rw [e]
    by_cases z : f k = true
    · rw [if_pos z]; exact Or.inr z
    · rw [if_neg z]; exact ih (k + 1)
theorem mate_fit {F F' : Int → Int → Bool} {D : Int} (e : FE F F' D) {T : Int → Int} {left a : Int} (a0 : 0 ≤ a) (a1 : a < D) : mateC F T D left a = mateC F' T D left a := by
  unfold mateC
  refine fsN_congr _ _ (fun b b0 b1 => ?_)
  rw [e a b a0 a1 (by omega) (by omega)]
theorem mate_has (F : Int → Int → Bool) (T : Int → Int) (D left a : Int) : mateC F T D left a = -9 ∨ hasb left (mateC F T D left a) := by
  rcases fsN_sat (f := fun b => decide (hasb left b) && (F a b && decide (1 + T (clr (clr left a) b) = T left))) (D - (a + 1)).toNat (a + 1) with q | q
  · exact Or.inl q
  · right
    rw [Bool.and_eq_true] at q
    exact of_decide_eq_true q.1
theorem pf_fit {F F' : Int → Int → Bool} {D : Int} (e : FE F F' D) {T : Int → Int} {d : Int} : ∀ (n : Nat) (a left : Int), 0 ≤ a → a + n ≤ D → pfC F T D d n a left = pfC F' T D d n a left := by
  intro n
  induction n with
  | zero => intro a left _ _; rfl
  | succ n ih =>
    intro a left a0 hn
    have q : mateC F T D left a = mateC F' T D left a := mate_fit e a0 (by omega)
    show (if hasb left a then (if a = d then mateC F T D left a else if mateC F T D left a = d then a else pfC F T D d n (a + 1) (leftC F T D left a)) else pfC F T D d n (a + 1) (leftC F T D left a)) = (if hasb left a then (if a = d then mateC F' T D left a else if mateC F' T D left a = d then a else pfC F' T D d n (a + 1) (leftC F' T D left a)) else pfC F' T D d n (a + 1) (leftC F' T D left a))
    have w : leftC F T D left a = leftC F' T D left a := by unfold leftC; rw [q]
    rw [q, w, ih (a + 1) _ (by omega) (by omega)]
theorem cp_left {c : zH} {t : Int} (a : Nat) : (cpC c t (a + 1)).1 = leftC (fitC c t) (tbC c t) (c t 2) (cpC c t a).1 a := by
  unfold leftC
  by_cases z : hasb (cpC c t a).1 a
  · rw [if_pos z]
    by_cases y : mateC (fitC c t) (tbC c t) (c t 2) (cpC c t a).1 a = -9
    · rw [if_pos y, cpC_0 z y]
    · rw [if_neg y, cpC_1 z y]
  · rw [if_neg z, cpC_n z]
/-- who is settled stays so -/
theorem cp_stay {c : zH} {t : Int} (m2 : 0 ≤ c t 2 ∧ c t 2 ≤ 6) {d : Int} (d0 : 0 ≤ d) (d1 : d < c t 2) : ∀ n a : Nat, (a : Int) + n ≤ c t 2 → ¬ hasb (cpC c t a).1 d → ¬ hasb (cpC c t (a + n)).1 d ∧ (cpC c t (a + n)).2 d = (cpC c t a).2 d := by
  have p6 := pw_le (n := c t 2) (by omega)
  intro n
  induction n with
  | zero => intro a _ h; exact ⟨h, rfl⟩
  | succ n ih =>
    intro a ha h
    have step : ¬ hasb (cpC c t (a + 1)).1 d ∧ (cpC c t (a + 1)).2 d = (cpC c t a).2 d := by
      have cr := cpC_r m2 a (by omega)
      by_cases z : hasb (cpC c t a).1 a
      · have ad : d ≠ a := fun e => h (e ▸ z)
        have c1 := clr_r (cpC c t a).1 a cr.1 (by omega) (by omega) (by omega)
        have e1 := clr_has (cpC c t a).1 a d cr.1 (by omega) (by omega) (by omega) d0 (by omega)
        have n1 : ¬ hasb (clr (cpC c t a).1 a) d := fun y => h (e1.1 y).1
        by_cases y : mateC (fitC c t) (tbC c t) (c t 2) (cpC c t a).1 a = -9
        · rw [cpC_0 z y]
          exact ⟨n1, rfl⟩
        · rw [cpC_1 z y]
          have mr := (mate_r (fitC c t) (tbC c t) (D := c t 2) (left := (cpC c t a).1) (a := (a : Int)) (by omega) (by omega)).resolve_left y
          have mh := (mate_has (fitC c t) (tbC c t) (c t 2) (cpC c t a).1 a).resolve_left y
          generalize hM : mateC (fitC c t) (tbC c t) (c t 2) (cpC c t a).1 a = M at *
          have md : d ≠ M := fun e => h (e ▸ mh)
          have e2 := clr_has (clr (cpC c t a).1 a) M d c1.1 (by have := c1.2.1; omega) (by omega) (by omega) d0 (by omega)
          exact ⟨fun x => n1 (e2.1 x).1, by show fu (fu (cpC c t a).2 a M) M a d = _; rw [fu_ne md, fu_ne ad]⟩
      · rw [cpC_n z]
        exact ⟨h, rfl⟩
    have q := ih (a + 1) (by omega) step.1
    rw [show a + (n + 1) = a + 1 + n by omega]
    exact ⟨q.1, q.2.trans step.2⟩
theorem cp_pf {c : zH} {t : Int} (m2 : 0 ≤ c t 2 ∧ c t 2 ≤ 6) {d : Int} (d0 : 0 ≤ d) (d1 : d < c t 2) : ∀ n a : Nat, (a : Int) + n = c t 2 → (a : Int) ≤ d → hasb (cpC c t a).1 d → (cpC c t a).2 d = -9 → (cpC c t (c t 2).toNat).2 d = pfC (fitC c t) (tbC c t) (c t 2) d n a (cpC c t a).1 := by
  have p6 := pw_le (n := c t 2) (by omega)
  intro n
  induction n with
  | zero => intro a ha hd; omega
  | succ n ih =>
    intro a ha hd hb hn
    have cr := cpC_r m2 a (by omega)
    have eN : (c t 2).toNat = a + 1 + n := by omega
    have e1 : pfC (fitC c t) (tbC c t) (c t 2) d (n + 1) a (cpC c t a).1 = if hasb (cpC c t a).1 a then (if (a : Int) = d then mateC (fitC c t) (tbC c t) (c t 2) (cpC c t a).1 a else if mateC (fitC c t) (tbC c t) (c t 2) (cpC c t a).1 a = d then (a : Int) else pfC (fitC c t) (tbC c t) (c t 2) d n (a + 1) (leftC (fitC c t) (tbC c t) (c t 2) (cpC c t a).1 a)) else pfC (fitC c t) (tbC c t) (c t 2) d n (a + 1) (leftC (fitC c t) (tbC c t) (c t 2) (cpC c t a).1 a) := rfl
    rw [e1, ← cp_left]
    have rcc := fun h1 h2 h3 => ih (a + 1) (by omega) h1 h2 h3
    rw [show ((a + 1 : Nat) : Int) = (a : Int) + 1 by omega] at rcc
    by_cases z : hasb (cpC c t a).1 a
    · rw [if_pos z]
      have c1 := clr_r (cpC c t a).1 a cr.1 (by omega) (by omega) (by omega)
      have h1 := clr_has (cpC c t a).1 a d cr.1 (by omega) (by omega) (by omega) d0 (by omega)
      by_cases y : mateC (fitC c t) (tbC c t) (c t 2) (cpC c t a).1 a = -9
      · have E := cpC_0 z y
        by_cases x : (a : Int) = d
        · rw [if_pos x, y, eN, (cp_stay m2 d0 d1 n (a + 1) (by omega) (by rw [E]; exact fun w => (h1.1 w).2 x.symm)).2, E]
          exact hn
        · rw [if_neg x, y, if_neg (by omega)]
          exact rcc (by omega) (by rw [E]; exact h1.2 ⟨hb, fun w => x w.symm⟩) (by rw [E]; exact hn)
      · have E := cpC_1 z y
        have mr := (mate_r (fitC c t) (tbC c t) (D := c t 2) (left := (cpC c t a).1) (a := (a : Int)) (by omega) (by omega)).resolve_left y
        have mh := (mate_has (fitC c t) (tbC c t) (c t 2) (cpC c t a).1 a).resolve_left y
        generalize hM : mateC (fitC c t) (tbC c t) (c t 2) (cpC c t a).1 a = M at *
        have h2 := clr_has (clr (cpC c t a).1 a) M d c1.1 (by have := c1.2.1; omega) (by omega) (by omega) d0 (by omega)
        by_cases x : (a : Int) = d
        · rw [if_pos x, eN, (cp_stay m2 d0 d1 n (a + 1) (by omega) (by rw [E]; exact fun w => (h1.1 (h2.1 w).1).2 x.symm)).2, E]
          show fu (fu (cpC c t a).2 a M) M a d = M
          rw [fu_ne (by omega), x, fu_at]
        · rw [if_neg x]
          by_cases w : M = d
          · rw [if_pos w, eN, (cp_stay m2 d0 d1 n (a + 1) (by omega) (by rw [E]; exact fun v => (h2.1 v).2 w.symm)).2, E]
            show fu (fu (cpC c t a).2 a M) M a d = a
            rw [w, fu_at]
          · rw [if_neg w]
            exact rcc (by omega) (by rw [E]; exact h2.2 ⟨h1.2 ⟨hb, fun v => x v.symm⟩, fun v => w v.symm⟩) (by rw [E]; show fu (fu (cpC c t a).2 a M) M a d = -9; rw [fu_ne (fun v => w v.symm), fu_ne (fun v => x v.symm)]; exact hn)
    · rw [if_neg z]
      have E := cpC_n z
      have x : (a : Int) ≠ d := fun e => z (e ▸ hb)
      exact rcc (by omega) (by rw [E]; exact hb) (by rw [E]; exact hn)
theorem eq_pair {g c m : zH} {t : Int} (R : Rel g c m t) (hm : MB m) (d : Int) : pairC c t d = pairF m d := by
  have m2 := hm.1.2.2.1
  have e2 := R.1.1.2.2.1
  have e : FE (fitC c t) (fitB m) (m 240 3) := fun a b a0 a1 b0 b1 => eq_fit R hm a0 a1 b0 b1
  have eT : tbC c t = tabM m := by unfold tbC tabM; rw [e2]; exact tabC_fit e m2
  unfold pairC pairF
  by_cases z : d = -1
  · rw [if_pos z, if_pos z, eT, e2]
  · rw [if_neg z, if_neg z]
    by_cases y : 0 ≤ d ∧ d < m 240 3
    · have m2' : 0 ≤ c t 2 ∧ c t 2 ≤ 6 := by rw [e2]; exact m2
      have h0 : hasb (cpC c t 0).1 d := (all_has (c t 2) d m2'.1 (by omega) y.1 (by omega)).2 (by rw [e2]; exact y.2)
      have q := cp_pf m2' y.1 (by rw [e2]; exact y.2) (c t 2).toNat 0 (by omega) (by omega) h0 rfl
      rw [if_pos (by rw [e2]; exact y), if_pos y, q, eT]
      have w : (cpC c t 0).1 = pw (c t 2) - 1 := rfl
      rw [w, e2]
      exact pf_fit e _ _ _ (by omega) (by omega)
    · rw [if_neg (by rw [e2]; exact y), if_neg y]
