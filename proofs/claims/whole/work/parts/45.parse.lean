/-! How a text is read, without a machine. -/
def scN (f : Int → Bool) (X : Int → Int) : Nat → Int → Int
  | 0, a => a
  | n + 1, a => if f (X a) = true then scN f X n (a + 1) else a
/-- the first place from a on, L at most, where f does not hold -/
def sc (f : Int → Bool) (X : Int → Int) (L a : Int) : Int := scN f X (L - a).toNat a
def isB (x : Int) : Bool := decide (x = 32)
def isL (x : Int) : Bool := decide (97 ≤ x ∧ x ≤ 122)
def isD (x : Int) : Bool := decide (48 ≤ x ∧ x ≤ 57)
theorem sc_L {f : Int → Bool} {X : Int → Int} {L a : Int} (h : L ≤ a) : sc f X L a = a := by
  unfold sc
  rw [show (L - a).toNat = 0 by omega]
  rfl
theorem sc_t {f : Int → Bool} {X : Int → Int} {L a : Int} (h : a < L) (e : f (X a) = true) : sc f X L a = sc f X L (a + 1) := by
  unfold sc
  rw [show (L - a).toNat = (L - (a + 1)).toNat + 1 by omega]
  exact if_pos e
theorem sc_n {f : Int → Bool} {X : Int → Int} {L a : Int} (h : a < L) (e : ¬ f (X a) = true) : sc f X L a = a := by
  unfold sc
  rw [show (L - a).toNat = (L - (a + 1)).toNat + 1 by omega]
  exact if_neg e
theorem sc_r {f : Int → Bool} {X : Int → Int} {L : Int} : ∀ (n : Nat) (a : Int), n = (L - a).toNat → a ≤ L → a ≤ sc f X L a ∧ sc f X L a ≤ L := by
  intro n
  induction n with
  | zero => intro a hn ha; rw [sc_L (by omega)]; omega
  | succ n ih =>
    intro a hn ha
    by_cases e : f (X a) = true
    · rw [sc_t (by omega) e]
      have q := ih (a + 1) (by omega) (by omega)
      omega
    · rw [sc_n (by omega) e]
      omega
theorem sc_rg {f : Int → Bool} {X : Int → Int} {L a : Int} (ha : a ≤ L) : a ≤ sc f X L a ∧ sc f X L a ≤ L := sc_r _ a rfl ha
/-- a token: its code (END -1, SIGN -2, none -3, a number, 1000 and a letter), at place p -/
def tkc (X : Int → Int) (L p : Int) : Int :=
  if L ≤ p then -1 else if isL (X p) = true then (if sc isL X L (p + 1) = p + 1 then 1000 + X p else -3)
  else if isD (X p) = true then (if sc isD X L (p + 1) = p + 1 then X p - 48 else if sc isD X L (p + 1) = p + 2 ∧ ¬ X p = 48 then 10 * (X p - 48) + X (p + 1) - 48 else -3)
  else if X p = 59 then -2 else -3
def tke (X : Int → Int) (L p : Int) : Int :=
  if L ≤ p then p else if isL (X p) = true then sc isL X L (p + 1) else if isD (X p) = true then sc isD X L (p + 1) else p + 1
/-- the token that comes from a on: its start, its code, its end -/
def ks (X : Int → Int) (L a : Int) : Int := sc isB X L a
def kc (X : Int → Int) (L a : Int) : Int := tkc X L (sc isB X L a)
def ke (X : Int → Int) (L a : Int) : Int := tke X L (sc isB X L a)
theorem ks_r {X : Int → Int} {L a : Int} (ha : a ≤ L) : a ≤ ks X L a ∧ ks X L a ≤ L := sc_rg ha
theorem tke_r {X : Int → Int} {L p : Int} (hp : p ≤ L) : p ≤ tke X L p ∧ tke X L p ≤ L ∧ (p < L → p < tke X L p) := by
  unfold tke
  by_cases z : L ≤ p
  · rw [if_pos z]; omega
  · rw [if_neg z]
    have a := sc_rg (f := isL) (X := X) (show p + 1 ≤ L by omega)
    have b := sc_rg (f := isD) (X := X) (show p + 1 ≤ L by omega)
    split
    · omega
    · split <;> omega
theorem ke_r {X : Int → Int} {L a : Int} (ha : a ≤ L) : ks X L a ≤ ke X L a ∧ ke X L a ≤ L := by
  have a := ks_r (X := X) ha
  have b := tke_r (X := X) a.2
  exact ⟨b.1, b.2.1⟩
theorem kc_end {X : Int → Int} {L p : Int} (h : ¬ tkc X L p = -1) : p < L := by
  by_cases z : L ≤ p
  · exact absurd (if_pos z) h
  · omega
theorem ke_lt {X : Int → Int} {L a : Int} (ha : a ≤ L) (h : ¬ kc X L a = -1) : a < ke X L a := by
  have a1 := ks_r (X := X) ha
  have b := tke_r (X := X) a1.2
  have q := kc_end h
  have q' : ks X L a < L := q
  have w := b.2.2 q'
  have e : ke X L a = tke X L (ks X L a) := rfl
  omega
theorem tkc_r {X : Int → Int} {L p : Int} : tkc X L p = -1 ∨ tkc X L p = -2 ∨ tkc X L p = -3 ∨ (0 ≤ tkc X L p ∧ tkc X L p ≤ 99) ∨ (1097 ≤ tkc X L p ∧ tkc X L p ≤ 1122) := by
  unfold tkc
  by_cases z : L ≤ p
  · rw [if_pos z]; omega
  rw [if_neg z]
  by_cases y : isL (X p) = true
  · rw [if_pos y]
    have := of_decide_eq_true y
    split <;> omega
  rw [if_neg y]
  by_cases x : isD (X p) = true
  · rw [if_pos x]
    have hx := of_decide_eq_true x
    by_cases w : sc isD X L (p + 1) = p + 1
    · rw [if_pos w]; omega
    rw [if_neg w]
    by_cases v : sc isD X L (p + 1) = p + 2 ∧ ¬ X p = 48
    · rw [if_pos v]
      by_cases u : p + 1 < L ∧ isD (X (p + 1)) = true
      · have hu := of_decide_eq_true u.2
        omega
      · exfalso
        by_cases t : p + 1 < L
        · exact w (sc_n t (fun s => u ⟨t, s⟩))
        · exact w (sc_L (by omega))
    · rw [if_neg v]; omega
  rw [if_neg x]
  split <;> omega
/-- what the class makes of a token -/
def KV (c k v : Int) : Prop := (c = -1 ∧ k = 0) ∨ (c = -2 ∧ k = 3) ∨ (c = -3 ∧ (k = 4 ∨ (k = 1 ∧ v = 0))) ∨ (0 ≤ c ∧ c ≤ 99 ∧ k = 2 ∧ v = c) ∨ (1097 ≤ c ∧ c ≤ 1122 ∧ k = 1 ∧ v = c - 1000)
/-! a house while it is read: row 0 its counts, then the class's rows -/
/-- what the next item makes of it: its fault (or -9), the house, the place behind it -/
def itP (F : zH) (X : Int → Int) (L a p : Int) : Int × zH × Int :=
  if 9 ≤ F 0 1 then (p, F, a) else
  if ¬ (0 ≤ kc X L a ∧ kc X L a ≤ F 0 0 - 1) then (ks X L a, F, a) else
  if ¬ (0 ≤ kc X L (ke X L a) ∧ kc X L (ke X L a) ≤ F 0 0 - 1) then (ks X L (ke X L a), F, a) else
  if kc X L a = kc X L (ke X L a) then (ks X L (ke X L a), F, a) else
  if ¬ (0 ≤ kc X L (ke X L (ke X L a)) ∧ kc X L (ke X L (ke X L a)) ≤ 9) then (ks X L (ke X L (ke X L a)), F, a) else
  if ¬ kc X L (ke X L (ke X L (ke X L a))) = -2 then (ks X L (ke X L (ke X L (ke X L a))), F, a) else
  (-9, zup (zup (zup (zup F 1 (F 0 1) (kc X L a)) 2 (F 0 1) (kc X L (ke X L a))) 3 (F 0 1) (kc X L (ke X L (ke X L a)))) 0 1 (F 0 1 + 1), ke X L (ke X L (ke X L (ke X L a))))
def itD (F : zH) (X : Int → Int) (L a p : Int) : Int × zH × Int :=
  if 6 ≤ F 0 2 then (p, F, a) else
  if ¬ (1 ≤ kc X L a ∧ kc X L a ≤ 40) then (ks X L a, F, a) else
  if ¬ (0 ≤ kc X L (ke X L a) ∧ kc X L (ke X L a) ≤ 30) then (ks X L (ke X L a), F, a) else
  if ¬ (0 ≤ kc X L (ke X L (ke X L a)) ∧ kc X L (ke X L (ke X L a)) ≤ 5) then (ks X L (ke X L (ke X L a)), F, a) else
  if ¬ (0 ≤ kc X L (ke X L (ke X L (ke X L a))) ∧ kc X L (ke X L (ke X L (ke X L a))) ≤ F 0 0 - 1) then (ks X L (ke X L (ke X L (ke X L a))), F, a) else
  if ¬ kc X L (ke X L (ke X L (ke X L (ke X L a)))) = -2 then (ks X L (ke X L (ke X L (ke X L (ke X L a)))), F, a) else
  (-9, zup (zup (zup (zup (zup (zup F 4 (F 0 2) (kc X L a)) 5 (F 0 2) (kc X L (ke X L a))) 6 (F 0 2) (kc X L (ke X L (ke X L a)))) 7 (F 0 2) (kc X L (ke X L (ke X L (ke X L a))))) 8 (F 0 2) 0) 0 2 (F 0 2 + 1), ke X L (ke X L (ke X L (ke X L (ke X L a)))))
def itF (F : zH) (X : Int → Int) (L a p : Int) : Int × zH × Int :=
  if ¬ (0 ≤ kc X L a ∧ kc X L a ≤ F 0 2 - 1) then (ks X L a, F, a) else
  if ¬ (0 ≤ kc X L (ke X L a) ∧ kc X L (ke X L a) ≤ F 0 2 - 1) then (ks X L (ke X L a), F, a) else
  if kc X L a = kc X L (ke X L a) then (ks X L (ke X L a), F, a) else
  if ¬ kc X L (ke X L (ke X L a)) = -2 then (ks X L (ke X L (ke X L a)), F, a) else
  (-9, zup (zup F 8 (kc X L a) (bor (F 8 (kc X L a)) (bshl 1 (kc X L (ke X L a))))) 8 (kc X L (ke X L a)) (bor (F 8 (kc X L (ke X L a))) (bshl 1 (kc X L a))), ke X L (ke X L (ke X L a)))
def itC (F : zH) (X : Int → Int) (L a p : Int) : Int × zH × Int :=
  if 4 ≤ F 0 3 then (p, F, a) else
  if ¬ (1 ≤ kc X L a ∧ kc X L a ≤ 9) then (ks X L a, F, a) else
  if ¬ kc X L (ke X L a) = -2 then (ks X L (ke X L a), F, a) else
  (-9, zup (zup F 9 (F 0 3) (kc X L a)) 0 3 (F 0 3 + 1), ke X L (ke X L a))
def itR (F : zH) (X : Int → Int) (L a p i : Int) : Int × zH × Int :=
  if 0 < i then (p, F, a) else
  if ¬ (2 ≤ kc X L a ∧ kc X L a ≤ 8) then (ks X L a, F, a) else
  if ¬ kc X L (ke X L a) = -2 then (ks X L (ke X L a), F, a) else
  (-9, zup F 0 0 (kc X L a), ke X L (ke X L a))
/-- an item, by its letter's code -/
def itm (F : zH) (X : Int → Int) (L a p i c : Int) : Int × zH × Int :=
  if c = 1099 then itC F X L a p else if c = 1100 then itD F X L a p else if c = 1102 then itF F X L a p else if c = 1112 then itP F X L a p else if c = 1114 then itR F X L a p i else (p, F, a)
/-- all items from a on: fault (or -9), the house, how many -/
def prs (X : Int → Int) (L : Int) : Nat → zH → Int → Int → Int × zH × Int
  | 0, F, i, _ => (-9, F, i)
  | n + 1, F, i, a => if kc X L a = -1 then (-9, F, i) else if (itm F X L (ke X L a) (ks X L a) i (kc X L a)).1 = -9 then prs X L n (itm F X L (ke X L a) (ks X L a) i (kc X L a)).2.1 (i + 1) (itm F X L (ke X L a) (ks X L a) i (kc X L a)).2.2 else ((itm F X L (ke X L a) (ks X L a) i (kc X L a)).1, F, i)
/-- nothing told: of no house but its counts -/
def tn (F : zH) : zH := zup (zup (zup (zup F 0 0 4) 0 1 0) 0 2 0) 0 3 0
/-- a house as it may be while it is read -/
def FO (F : zH) : Prop := ((2 ≤ F 0 0 ∧ F 0 0 ≤ 8) ∧ (0 ≤ F 0 1 ∧ F 0 1 ≤ 9) ∧ (0 ≤ F 0 2 ∧ F 0 2 ≤ 6) ∧ (0 ≤ F 0 3 ∧ F 0 3 ≤ 4)) ∧ (∀ p, 0 ≤ p → p < F 0 1 → (0 ≤ F 1 p ∧ F 1 p < F 0 0) ∧ (0 ≤ F 2 p ∧ F 2 p < F 0 0) ∧ (0 ≤ F 3 p ∧ F 3 p ≤ 9)) ∧ (∀ d, 0 ≤ d → d < F 0 2 → (1 ≤ F 4 d ∧ F 4 d ≤ 40) ∧ (0 ≤ F 5 d ∧ F 5 d ≤ 30) ∧ (0 ≤ F 6 d ∧ F 6 d ≤ 5) ∧ (0 ≤ F 7 d ∧ F 7 d < F 0 0) ∧ (0 ≤ F 8 d ∧ F 8 d < pw (F 0 2))) ∧ (∀ c, 0 ≤ c → c < F 0 3 → 1 ≤ F 9 c ∧ F 9 c ≤ 9)
theorem FO_tn (F : zH) : FO (tn F) := by
  have e0 : tn F 0 0 = 4 := by unfold tn; rw [zup_ne (by omega), zup_ne (by omega), zup_ne (by omega), zup_same]
  have e1 : tn F 0 1 = 0 := by unfold tn; rw [zup_ne (by omega), zup_ne (by omega), zup_same]
  have e2 : tn F 0 2 = 0 := by unfold tn; rw [zup_ne (by omega), zup_same]
  have e3 : tn F 0 3 = 0 := by unfold tn; rw [zup_same]
  refine ⟨⟨by omega, by omega, by omega, by omega⟩, fun p p0 p1 => by omega, fun p p0 p1 => by omega, fun p p0 p1 => by omega⟩
/-- what an item keeps -/
def IO (F : zH) (L a i : Int) (x : Int × zH × Int) : Prop := (x.1 = -9 → FO x.2.1 ∧ a ≤ x.2.2 ∧ x.2.2 ≤ L) ∧ (x.1 ≠ -9 → 0 ≤ x.1 ∧ x.1 ≤ L)
theorem IO_f {F : zH} {L a i q a' : Int} {F' : zH} (h : 0 ≤ q ∧ q ≤ L) : IO F L a i (q, F', a') := ⟨fun z => by have : q = -9 := z; omega, fun _ => h⟩
theorem IO_P {F : zH} {X : Int → Int} {L a p i : Int} (hF : FO F) (a0 : 0 ≤ a) (a1 : a ≤ L) (p0 : 0 ≤ p) (p1 : p ≤ a) : IO F L a i (itP F X L a p) := by
  have k1 := ks_r (X := X) a1
  have e1 := ke_r (X := X) a1
  have k2 := ks_r (X := X) e1.2
  have e2 := ke_r (X := X) e1.2
  have k3 := ks_r (X := X) e2.2
  have e3 := ke_r (X := X) e2.2
  have k4 := ks_r (X := X) e3.2
  have e4 := ke_r (X := X) e3.2
  unfold itP
  by_cases h0 : 9 ≤ F 0 1
  · rw [if_pos h0]; exact IO_f (by omega)
  rw [if_neg h0]
  by_cases h1 : ¬ (0 ≤ kc X L a ∧ kc X L a ≤ F 0 0 - 1)
  · rw [if_pos h1]; exact IO_f (by omega)
  rw [if_neg h1]
  by_cases h2 : ¬ (0 ≤ kc X L (ke X L a) ∧ kc X L (ke X L a) ≤ F 0 0 - 1)
  · rw [if_pos h2]; exact IO_f (by omega)
  rw [if_neg h2]
  by_cases h3 : kc X L a = kc X L (ke X L a)
  · rw [if_pos h3]; exact IO_f (by omega)
  rw [if_neg h3]
  by_cases h4 : ¬ (0 ≤ kc X L (ke X L (ke X L a)) ∧ kc X L (ke X L (ke X L a)) ≤ 9)
  · rw [if_pos h4]; exact IO_f (by omega)
  rw [if_neg h4]
  by_cases h5 : ¬ kc X L (ke X L (ke X L (ke X L a))) = -2
  · rw [if_pos h5]; exact IO_f (by omega)
  rw [if_neg h5]
  refine ⟨fun _ => ⟨?_, show a ≤ ke X L (ke X L (ke X L (ke X L a))) by omega, e4.2⟩, fun z => absurd rfl z⟩
  show FO (zup (zup (zup (zup F 1 (F 0 1) (kc X L a)) 2 (F 0 1) (kc X L (ke X L a))) 3 (F 0 1) (kc X L (ke X L (ke X L a)))) 0 1 (F 0 1 + 1))
  generalize kc X L a = x at *
  generalize kc X L (ke X L a) = y at *
  generalize kc X L (ke X L (ke X L a)) = z at *
  obtain ⟨⟨c0, c1, c2, c3⟩, fp, fd, fc⟩ := hF
  obtain ⟨G, hG⟩ : ∃ G, G = zup (zup (zup (zup F 1 (F 0 1) x) 2 (F 0 1) y) 3 (F 0 1) z) 0 1 (F 0 1 + 1) := ⟨_, rfl⟩
  rw [← hG]
  have g0 : G 0 1 = F 0 1 + 1 := by rw [hG, zup_same]
  have gn : ∀ r b, ¬ (r = 0 ∧ b = 1) → ¬ (1 ≤ r ∧ r ≤ 3 ∧ b = F 0 1) → G r b = F r b := fun r b n1 n2 => by rw [hG, zup_ne n1, zup_ne (by omega), zup_ne (by omega), zup_ne (by omega)]
  have g00 := gn 0 0 (by omega) (by omega)
  have g02 := gn 0 2 (by omega) (by omega)
  have g03 := gn 0 3 (by omega) (by omega)
  refine ⟨⟨by omega, by omega, by omega, by omega⟩, fun q q0 q1 => ?_, fun q q0 q1 => ?_, fun q q0 q1 => ?_⟩
  · by_cases w : q = F 0 1
    · have v1 : G 1 q = x := by rw [hG, zup_ne (by omega), zup_ne (by omega), zup_ne (by omega), w, zup_same]
      have v2 : G 2 q = y := by rw [hG, zup_ne (by omega), zup_ne (by omega), w, zup_same]
      have v3 : G 3 q = z := by rw [hG, zup_ne (by omega), w, zup_same]
      rw [v1, v2, v3, g00]
      omega
    · rw [gn 1 q (by omega) (by omega), gn 2 q (by omega) (by omega), gn 3 q (by omega) (by omega), g00]
      exact fp q q0 (by omega)
  · rw [gn 4 q (by omega) (by omega), gn 5 q (by omega) (by omega), gn 6 q (by omega) (by omega), gn 7 q (by omega) (by omega), gn 8 q (by omega) (by omega), g00, g02]
    exact fd q q0 (by omega)
  · rw [gn 9 q (by omega) (by omega)]
    exact fc q q0 (by omega)
theorem IO_D {F : zH} {X : Int → Int} {L a p i : Int} (hF : FO F) (a0 : 0 ≤ a) (a1 : a ≤ L) (p0 : 0 ≤ p) (p1 : p ≤ a) : IO F L a i (itD F X L a p) := by
  have k1 := ks_r (X := X) a1
  have e1 := ke_r (X := X) a1
  have k2 := ks_r (X := X) e1.2
  have e2 := ke_r (X := X) e1.2
  have k3 := ks_r (X := X) e2.2
  have e3 := ke_r (X := X) e2.2
  have k4 := ks_r (X := X) e3.2
  have e4 := ke_r (X := X) e3.2
  have k5 := ks_r (X := X) e4.2
  have e5 := ke_r (X := X) e4.2
  unfold itD
  by_cases h0 : 6 ≤ F 0 2
  · rw [if_pos h0]; exact IO_f (by omega)
  rw [if_neg h0]
  by_cases h1 : ¬ (1 ≤ kc X L a ∧ kc X L a ≤ 40)
  · rw [if_pos h1]; exact IO_f (by omega)
  rw [if_neg h1]
  by_cases h2 : ¬ (0 ≤ kc X L (ke X L a) ∧ kc X L (ke X L a) ≤ 30)
  · rw [if_pos h2]; exact IO_f (by omega)
  rw [if_neg h2]
  by_cases h3 : ¬ (0 ≤ kc X L (ke X L (ke X L a)) ∧ kc X L (ke X L (ke X L a)) ≤ 5)
  · rw [if_pos h3]; exact IO_f (by omega)
  rw [if_neg h3]
  by_cases h4 : ¬ (0 ≤ kc X L (ke X L (ke X L (ke X L a))) ∧ kc X L (ke X L (ke X L (ke X L a))) ≤ F 0 0 - 1)
  · rw [if_pos h4]; exact IO_f (by omega)
  rw [if_neg h4]
  by_cases h5 : ¬ kc X L (ke X L (ke X L (ke X L (ke X L a)))) = -2
  · rw [if_pos h5]; exact IO_f (by omega)
  rw [if_neg h5]
  refine ⟨fun _ => ⟨?_, show a ≤ ke X L (ke X L (ke X L (ke X L (ke X L a)))) by omega, e5.2⟩, fun z => absurd rfl z⟩
  show FO (zup (zup (zup (zup (zup (zup F 4 (F 0 2) (kc X L a)) 5 (F 0 2) (kc X L (ke X L a))) 6 (F 0 2) (kc X L (ke X L (ke X L a)))) 7 (F 0 2) (kc X L (ke X L (ke X L (ke X L a))))) 8 (F 0 2) 0) 0 2 (F 0 2 + 1))
  generalize kc X L a = x at *
  generalize kc X L (ke X L a) = y at *
  generalize kc X L (ke X L (ke X L a)) = z at *
  generalize kc X L (ke X L (ke X L (ke X L a))) = u at *
  obtain ⟨⟨c0, c1, c2, c3⟩, fp, fd, fc⟩ := hF
  obtain ⟨G, hG⟩ : ∃ G, G = zup (zup (zup (zup (zup (zup F 4 (F 0 2) x) 5 (F 0 2) y) 6 (F 0 2) z) 7 (F 0 2) u) 8 (F 0 2) 0) 0 2 (F 0 2 + 1) := ⟨_, rfl⟩
  rw [← hG]
  have g0 : G 0 2 = F 0 2 + 1 := by rw [hG, zup_same]
  have gn : ∀ r b, ¬ (r = 0 ∧ b = 2) → ¬ (4 ≤ r ∧ r ≤ 8 ∧ b = F 0 2) → G r b = F r b := fun r b n1 n2 => by rw [hG, zup_ne n1, zup_ne (by omega), zup_ne (by omega), zup_ne (by omega), zup_ne (by omega), zup_ne (by omega)]
  have g00 := gn 0 0 (by omega) (by omega)
  have g01 := gn 0 1 (by omega) (by omega)
  have g03 := gn 0 3 (by omega) (by omega)
  have pm := pw_mono (show F 0 2 ≤ F 0 2 + 1 by omega)
  have pp := pw_pos (F 0 2 + 1)
  refine ⟨⟨by omega, by omega, by omega, by omega⟩, fun q q0 q1 => ?_, fun q q0 q1 => ?_, fun q q0 q1 => ?_⟩
  · rw [gn 1 q (by omega) (by omega), gn 2 q (by omega) (by omega), gn 3 q (by omega) (by omega), g00]
    exact fp q q0 (by omega)
  · rw [g0, g00]
    by_cases w : q = F 0 2
    · have v1 : G 4 q = x := by rw [hG, zup_ne (by omega), zup_ne (by omega), zup_ne (by omega), zup_ne (by omega), zup_ne (by omega), w, zup_same]
      have v2 : G 5 q = y := by rw [hG, zup_ne (by omega), zup_ne (by omega), zup_ne (by omega), zup_ne (by omega), w, zup_same]
      have v3 : G 6 q = z := by rw [hG, zup_ne (by omega), zup_ne (by omega), zup_ne (by omega), w, zup_same]
      have v4 : G 7 q = u := by rw [hG, zup_ne (by omega), zup_ne (by omega), w, zup_same]
      have v5 : G 8 q = 0 := by rw [hG, zup_ne (by omega), w, zup_same]
      rw [v1, v2, v3, v4, v5]
      omega
    · rw [gn 4 q (by omega) (by omega), gn 5 q (by omega) (by omega), gn 6 q (by omega) (by omega), gn 7 q (by omega) (by omega), gn 8 q (by omega) (by omega)]
      have := fd q q0 (by omega)
      omega
  · rw [gn 9 q (by omega) (by omega)]
    exact fc q q0 (by omega)
theorem IO_F {F : zH} {X : Int → Int} {L a p i : Int} (hF : FO F) (a0 : 0 ≤ a) (a1 : a ≤ L) (p0 : 0 ≤ p) (p1 : p ≤ a) : IO F L a i (itF F X L a p) := by
  have k1 := ks_r (X := X) a1
  have e1 := ke_r (X := X) a1
  have k2 := ks_r (X := X) e1.2
  have e2 := ke_r (X := X) e1.2
  have k3 := ks_r (X := X) e2.2
  have e3 := ke_r (X := X) e2.2
  unfold itF
  by_cases h1 : ¬ (0 ≤ kc X L a ∧ kc X L a ≤ F 0 2 - 1)
  · rw [if_pos h1]; exact IO_f (by omega)
  rw [if_neg h1]
  by_cases h2 : ¬ (0 ≤ kc X L (ke X L a) ∧ kc X L (ke X L a) ≤ F 0 2 - 1)
  · rw [if_pos h2]; exact IO_f (by omega)
  rw [if_neg h2]
  by_cases h3 : kc X L a = kc X L (ke X L a)
  · rw [if_pos h3]; exact IO_f (by omega)
  rw [if_neg h3]
  by_cases h5 : ¬ kc X L (ke X L (ke X L a)) = -2
  · rw [if_pos h5]; exact IO_f (by omega)
  rw [if_neg h5]
  refine ⟨fun _ => ⟨?_, show a ≤ ke X L (ke X L (ke X L a)) by omega, e3.2⟩, fun z => absurd rfl z⟩
  show FO (zup (zup F 8 (kc X L a) (bor (F 8 (kc X L a)) (bshl 1 (kc X L (ke X L a))))) 8 (kc X L (ke X L a)) (bor (F 8 (kc X L (ke X L a))) (bshl 1 (kc X L a))))
  generalize kc X L a = x at *
  generalize kc X L (ke X L a) = y at *
  obtain ⟨⟨c0, c1, c2, c3⟩, fp, fd, fc⟩ := hF
  have p6 := pw_le (n := F 0 2) (by omega)
  have bb : ∀ u v, 0 ≤ u → u < F 0 2 → 0 ≤ v → v < F 0 2 → 0 ≤ bor (F 8 u) (bshl 1 v) ∧ bor (F 8 u) (bshl 1 v) < pw (F 0 2) := fun u v u0 u1 v0 v1 => by
    have f := (fd u u0 u1).2.2.2.2
    have e := bshl_pw v v0 (by omega)
    have pv := pw_pos v
    have pl : pw v < pw (F 0 2) := by
      have := pw_mono (show v + 1 ≤ F 0 2 by omega)
      have e2 : pw (v + 1) = 2 * pw v := by
        have := pw_succ v.toNat
        rw [show ((v.toNat + 1 : Nat) : Int) = v + 1 by omega, show (v.toNat : Int) = v by omega] at this
        exact this
      omega
    have br := bor_r (F 8 u) (bshl 1 v) (F 0 2) f.1 (by omega) (by omega) (by omega) c2.1 (by omega)
    rw [e] at br ⊢
    exact ⟨by omega, br.2.2 f.2 pl⟩
  obtain ⟨G, hG⟩ : ∃ G, G = zup (zup F 8 x (bor (F 8 x) (bshl 1 y))) 8 y (bor (F 8 y) (bshl 1 x)) := ⟨_, rfl⟩
  rw [← hG]
  have gn : ∀ r b, r ≠ 8 → G r b = F r b := fun r b n => by rw [hG, zup_ne (by omega), zup_ne (by omega)]
  have g00 := gn 0 0 (by omega)
  have g01 := gn 0 1 (by omega)
  have g02 := gn 0 2 (by omega)
  have g03 := gn 0 3 (by omega)
  have g8 : ∀ q, 0 ≤ q → q < F 0 2 → 0 ≤ G 8 q ∧ G 8 q < pw (F 0 2) := fun q q0 q1 => by
    by_cases w : q = y
    · rw [hG, w, zup_same]; exact bb y x (by omega) (by omega) (by omega) (by omega)
    · by_cases v : q = x
      · rw [hG, zup_ne (by omega), v, zup_same]; exact bb x y (by omega) (by omega) (by omega) (by omega)
      · rw [hG, zup_ne (by omega), zup_ne (by omega)]; exact (fd q q0 q1).2.2.2.2
  refine ⟨⟨by omega, by omega, by omega, by omega⟩, fun q q0 q1 => ?_, fun q q0 q1 => ?_, fun q q0 q1 => ?_⟩
  · rw [gn 1 q (by omega), gn 2 q (by omega), gn 3 q (by omega), g00]
    exact fp q q0 (by omega)
  · rw [gn 4 q (by omega), gn 5 q (by omega), gn 6 q (by omega), gn 7 q (by omega), g00, g02]
    have := fd q q0 (by omega)
    exact ⟨this.1, this.2.1, this.2.2.1, this.2.2.2.1, g8 q q0 (by omega)⟩
  · rw [gn 9 q (by omega)]
    exact fc q q0 (by omega)
theorem IO_C {F : zH} {X : Int → Int} {L a p i : Int} (hF : FO F) (a0 : 0 ≤ a) (a1 : a ≤ L) (p0 : 0 ≤ p) (p1 : p ≤ a) : IO F L a i (itC F X L a p) := by
  have k1 := ks_r (X := X) a1
  have e1 := ke_r (X := X) a1
  have k2 := ks_r (X := X) e1.2
  have e2 := ke_r (X := X) e1.2
  unfold itC
  by_cases h0 : 4 ≤ F 0 3
  · rw [if_pos h0]; exact IO_f (by omega)
  rw [if_neg h0]
  by_cases h1 : ¬ (1 ≤ kc X L a ∧ kc X L a ≤ 9)
  · rw [if_pos h1]; exact IO_f (by omega)
  rw [if_neg h1]
  by_cases h5 : ¬ kc X L (ke X L a) = -2
  · rw [if_pos h5]; exact IO_f (by omega)
  rw [if_neg h5]
  refine ⟨fun _ => ⟨?_, show a ≤ ke X L (ke X L a) by omega, e2.2⟩, fun z => absurd rfl z⟩
  show FO (zup (zup F 9 (F 0 3) (kc X L a)) 0 3 (F 0 3 + 1))
  generalize kc X L a = x at *
  obtain ⟨⟨c0, c1, c2, c3⟩, fp, fd, fc⟩ := hF
  obtain ⟨G, hG⟩ : ∃ G, G = zup (zup F 9 (F 0 3) x) 0 3 (F 0 3 + 1) := ⟨_, rfl⟩
  rw [← hG]
  have g0 : G 0 3 = F 0 3 + 1 := by rw [hG, zup_same]
  have gn : ∀ r b, ¬ (r = 0 ∧ b = 3) → ¬ (r = 9 ∧ b = F 0 3) → G r b = F r b := fun r b n1 n2 => by rw [hG, zup_ne n1, zup_ne n2]
  have g00 := gn 0 0 (by omega) (by omega)
  have g01 := gn 0 1 (by omega) (by omega)
  have g02 := gn 0 2 (by omega) (by omega)
  refine ⟨⟨by omega, by omega, by omega, by omega⟩, fun q q0 q1 => ?_, fun q q0 q1 => ?_, fun q q0 q1 => ?_⟩
  · rw [gn 1 q (by omega) (by omega), gn 2 q (by omega) (by omega), gn 3 q (by omega) (by omega), g00]
    exact fp q q0 (by omega)
  · rw [gn 4 q (by omega) (by omega), gn 5 q (by omega) (by omega), gn 6 q (by omega) (by omega), gn 7 q (by omega) (by omega), gn 8 q (by omega) (by omega), g00, g02]
    exact fd q q0 (by omega)
  · by_cases w : q = F 0 3
    · have v1 : G 9 q = x := by rw [hG, zup_ne (by omega), w, zup_same]
      rw [v1]
      omega
    · rw [gn 9 q (by omega) (by omega)]
      exact fc q q0 (by omega)
theorem IO_R {F : zH} {X : Int → Int} {L a p i : Int} (hF : FO F) (a0 : 0 ≤ a) (a1 : a ≤ L) (p0 : 0 ≤ p) (p1 : p ≤ a) (i0 : 0 ≤ i) (hi : i = 0 → F 0 1 = 0 ∧ F 0 2 = 0) : IO F L a i (itR F X L a p i) := by
  have k1 := ks_r (X := X) a1
  have e1 := ke_r (X := X) a1
  have k2 := ks_r (X := X) e1.2
  have e2 := ke_r (X := X) e1.2
  unfold itR
  by_cases h0 : 0 < i
  · rw [if_pos h0]; exact IO_f (by omega)
  rw [if_neg h0]
  by_cases h1 : ¬ (2 ≤ kc X L a ∧ kc X L a ≤ 8)
  · rw [if_pos h1]; exact IO_f (by omega)
  rw [if_neg h1]
  by_cases h5 : ¬ kc X L (ke X L a) = -2
  · rw [if_pos h5]; exact IO_f (by omega)
  rw [if_neg h5]
  refine ⟨fun _ => ⟨?_, show a ≤ ke X L (ke X L a) by omega, e2.2⟩, fun z => absurd rfl z⟩
  show FO (zup F 0 0 (kc X L a))
  generalize kc X L a = x at *
  obtain ⟨⟨c0, c1, c2, c3⟩, fp, fd, fc⟩ := hF
  have q := hi (by omega)
  have gn : ∀ r b, ¬ (r = 0 ∧ b = 0) → zup F 0 0 x r b = F r b := fun r b n => zup_ne n
  have g0 : zup F 0 0 x 0 0 = x := zup_same _ _ _ _
  have g01 := gn 0 1 (by omega)
  have g02 := gn 0 2 (by omega)
  have g03 := gn 0 3 (by omega)
  refine ⟨⟨by omega, by omega, by omega, by omega⟩, fun q q0 q1 => by omega, fun q q0 q1 => by omega, fun q q0 q1 => ?_⟩
  rw [gn 9 q (by omega)]
  exact fc q q0 (by omega)
theorem IO_m {F : zH} {X : Int → Int} {L a p i c : Int} (hF : FO F) (a0 : 0 ≤ a) (a1 : a ≤ L) (p0 : 0 ≤ p) (p1 : p ≤ a) (i0 : 0 ≤ i) (hi : i = 0 → F 0 1 = 0 ∧ F 0 2 = 0) : IO F L a i (itm F X L a p i c) := by
  unfold itm
  split
  · exact IO_C hF a0 a1 p0 p1
  split
  · exact IO_D hF a0 a1 p0 p1
  split
  · exact IO_F hF a0 a1 p0 p1
  split
  · exact IO_P hF a0 a1 p0 p1
  split
  · exact IO_R hF a0 a1 p0 p1 i0 hi
  · exact IO_f (by omega)
