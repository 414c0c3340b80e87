/-! How the class's cells and the reference's tell the same. -/
/-- a place of a now that counts -/
def vk (h : zH) (k : Int) : Prop := (0 ≤ k ∧ k < 4 * h 240 3) ∨ (24 ≤ k ∧ k < 24 + h 240 5) ∨ k = 28
def RelT (c m : zH) (t : Int) : Prop := c t 0 = m 240 0 ∧ c t 1 = m 240 1 ∧ c t 2 = m 240 3 ∧ c t 3 = m 240 5
def RelP (c m : zH) (t : Int) : Prop := ∀ p, 0 ≤ p → p < m 240 1 → c (t + 1) p = m 241 (3 * p) ∧ c (t + 2) p = m 241 (3 * p + 1) ∧ c (t + 3) p = m 241 (3 * p + 2)
def RelD (c m : zH) (t : Int) : Prop := ∀ d, 0 ≤ d → d < m 240 3 → c (t + 4) d = m 242 (3 * d) ∧ c (t + 6) d = m 242 (3 * d + 1) ∧ c (t + 8) d = m 242 (3 * d + 2)
def RelC (c m : zH) (t : Int) : Prop := ∀ i, 0 ≤ i → i < m 240 5 → c (t + 9) i = m 243 i
def RelN (c m : zH) : Prop := ∀ k, vk m k → CV c 24 k = m 244 k
def RelH (g c m : zH) : Prop := c 30 1 = m 240 9 ∧ ∀ i, 0 ≤ i → i < m 240 9 → ∀ k, vk m k → CV c (g 31 i) k = m 245 (29 * i + k)
def RelI (c m : zH) (j : Int) : Prop := (∀ k, vk m k → CV c (103 + 69 * j) k = m 246 (320 * j + k)) ∧ c (109 + 69 * j) 1 = m 246 (320 * j + 319) ∧ ∀ i, 0 ≤ i → i < m 246 (320 * j + 319) → ∀ k, vk m k → CV c (111 + 69 * j + 6 * i) k = m 246 (320 * j + 29 + 29 * i + k)
def RelIs (c m : zH) : Prop := ∀ j, 0 ≤ j → j < 2 → c (102 + 69 * j) 2 = m 247 j ∧ (m 247 j = 1 → RelI c m j)
def RelW (c m : zH) : Prop := c 93 2 = m 240 13 ∧ ∀ i, 0 ≤ i → i < m 240 13 → c 94 i = m 248 (2 * i) ∧ c 95 i = m 248 (2 * i + 1)
def RelX (c m : zH) : Prop := c 1 9 = m 240 14 ∧ c 2 1 = m 240 16 ∧ ∀ i, 0 ≤ i → i < m 240 16 → c 3 i = m 249 i
def Rel (g c m : zH) (t : Int) : Prop := (RelT c m t ∧ RelP c m t ∧ RelD c m t ∧ RelC c m t) ∧ RelN c m ∧ RelH g c m ∧ RelIs c m ∧ RelW c m ∧ RelX c m
/-- the cells that the relation speaks of -/
def usM (a b : Int) : Prop := (a = 240 ∧ (b = 0 ∨ b = 1 ∨ b = 3 ∨ b = 5 ∨ b = 9 ∨ b = 13 ∨ b = 14 ∨ b = 16)) ∨ (241 ≤ a ∧ a ≤ 249)
def usC (t a b : Int) : Prop := (t ≤ a ∧ a ≤ t + 9) ∨ (24 ≤ a ∧ a ≤ 95) ∨ (102 ≤ a ∧ a < 240) ∨ (a = 1 ∧ b = 9) ∨ (a = 2 ∧ b = 1) ∨ a = 3
theorem Rel_m {g c m m' : zH} {t : Int} (e : ∀ a b, usM a b → m' a b = m a b) (R : Rel g c m t) : Rel g c m' t := by
  have e0 := e 240 0 (by unfold usM; omega)
  have e1 := e 240 1 (by unfold usM; omega)
  have e3 := e 240 3 (by unfold usM; omega)
  have e5 := e 240 5 (by unfold usM; omega)
  have e9 := e 240 9 (by unfold usM; omega)
  have e13 := e 240 13 (by unfold usM; omega)
  have e14 := e 240 14 (by unfold usM; omega)
  have e16 := e 240 16 (by unfold usM; omega)
  have f1 := fun b => e 241 b (by unfold usM; omega)
  have f2 := fun b => e 242 b (by unfold usM; omega)
  have f3 := fun b => e 243 b (by unfold usM; omega)
  have f4 := fun b => e 244 b (by unfold usM; omega)
  have f5 := fun b => e 245 b (by unfold usM; omega)
  have f6 := fun b => e 246 b (by unfold usM; omega)
  have f7 := fun b => e 247 b (by unfold usM; omega)
  have f8 := fun b => e 248 b (by unfold usM; omega)
  have f9 := fun b => e 249 b (by unfold usM; omega)
  unfold Rel RelT RelP RelD RelC RelN RelH RelIs RelI RelW RelX vk at *
  simp only [e0, e1, e3, e5, e9, e13, e14, e16, f1, f2, f3, f4, f5, f6, f7, f8, f9]
  exact R
theorem Rel_c {g c c' m : zH} {t : Int} (H : HG g) (hk : 0 ≤ m 240 9 ∧ m 240 9 ≤ 10) (hi : ∀ j, 0 ≤ j → j < 2 → m 247 j = 1 → m 246 (320 * j + 319) ≤ 10) (e : ∀ a b, usC t a b → c' a b = c a b) (R : Rel g c m t) : Rel g c' m t := by
  obtain ⟨⟨⟨t0, t1, t2, t3⟩, rp, rd, rc⟩, rn, ⟨rk, rh⟩, ri, ⟨rw, rv⟩, rx, ry, rz⟩ := R
  have et := fun b => e t b (by unfold usC; omega)
  refine ⟨⟨⟨by rw [et]; exact t0, by rw [et]; exact t1, by rw [et]; exact t2, by rw [et]; exact t3⟩, ?_, ?_, ?_⟩, ?_, ⟨?_, ?_⟩, ?_, ⟨?_, ?_⟩, ?_, ?_, ?_⟩
  · intro p p0 p1
    rw [e (t + 1) p (by unfold usC; omega), e (t + 2) p (by unfold usC; omega), e (t + 3) p (by unfold usC; omega)]
    exact rp p p0 p1
  · intro p p0 p1
    rw [e (t + 4) p (by unfold usC; omega), e (t + 6) p (by unfold usC; omega), e (t + 8) p (by unfold usC; omega)]
    exact rd p p0 p1
  · intro p p0 p1
    rw [e (t + 9) p (by unfold usC; omega)]
    exact rc p p0 p1
  · intro k hk
    rw [CV_congr (fun a b a0 a1 => e a b (by unfold usC; omega)) k]
    exact rn k hk
  · rw [e 30 1 (by unfold usC; omega)]; exact rk
  · intro i i0 i1 k hk
    have q := H.rg i0 (show i < 10 by omega)
    rw [CV_congr (fun a b a0 a1 => e a b (by unfold usC; omega)) k]
    exact rh i i0 i1 k hk
  · intro j j0 j1
    rw [e (102 + 69 * j) 2 (by unfold usC; omega)]
    refine ⟨(ri j j0 j1).1, fun z => ?_⟩
    obtain ⟨x1, x2, x3⟩ := (ri j j0 j1).2 z
    have q9 := hi j j0 j1 z
    refine ⟨fun k hk => ?_, ?_, fun i i0 i1 k hk => ?_⟩
    · rw [CV_congr (fun a b a0 a1 => e a b (by unfold usC; omega)) k]
      exact x1 k hk
    · rw [e (109 + 69 * j) 1 (by unfold usC; omega)]; exact x2
    · rw [CV_congr (fun a b a0 a1 => e a b (by unfold usC; omega)) k]
      exact x3 i i0 i1 k hk
  · rw [e 93 2 (by unfold usC; omega)]; exact rw
  · intro i i0 i1
    rw [e 94 i (by unfold usC; omega), e 95 i (by unfold usC; omega)]
    exact rv i i0 i1
  · rw [e 1 9 (by unfold usC; omega)]; exact rx
  · rw [e 2 1 (by unfold usC; omega)]; exact ry
  · intro i i0 i1
    rw [e 3 i (by unfold usC; omega)]; exact rz i i0 i1
theorem MB_m {m m' : zH} (e : ∀ a b, usM a b → m' a b = m a b) (hm : MB m) : MB m' := by
  have e0 := e 240 0 (by unfold usM; omega)
  have e1 := e 240 1 (by unfold usM; omega)
  have e3 := e 240 3 (by unfold usM; omega)
  have e5 := e 240 5 (by unfold usM; omega)
  have e9 := e 240 9 (by unfold usM; omega)
  have e13 := e 240 13 (by unfold usM; omega)
  have e14 := e 240 14 (by unfold usM; omega)
  have e16 := e 240 16 (by unfold usM; omega)
  have f1 := fun b => e 241 b (by unfold usM; omega)
  have f2 := fun b => e 242 b (by unfold usM; omega)
  have f3 := fun b => e 243 b (by unfold usM; omega)
  have f4 := fun b => e 244 b (by unfold usM; omega)
  have f5 := fun b => e 245 b (by unfold usM; omega)
  have f6 := fun b => e 246 b (by unfold usM; omega)
  have f7 := fun b => e 247 b (by unfold usM; omega)
  have f8 := fun b => e 248 b (by unfold usM; omega)
  have f9 := fun b => e 249 b (by unfold usM; omega)
  unfold MB MBc MBp MBd MBn MBi MBh MBt NB at *
  simp only [e0, e1, e3, e5, e9, e13, e14, e16, f1, f2, f3, f4, f5, f6, f7, f8, f9]
  exact hm
theorem MB.hi {m : zH} (hm : MB m) : ∀ j, 0 ≤ j → j < 2 → m 247 j = 1 → m 246 (320 * j + 319) ≤ 10 := fun j j0 j1 z => ((hm.2.2.2.2.2.2.1 j j0 j1).2 z).2.1.2
theorem Rel.n0 {g c m : zH} {t : Int} (R : Rel g c m t) (hm : MB m) {d : Int} (d0 : 0 ≤ d) (d1 : d < m 240 3) : c 25 d = m 244 (4 * d) ∧ c 26 d = m 244 (4 * d + 1) ∧ c 27 d = m 244 (4 * d + 2) ∧ c 28 d = m 244 (4 * d + 3) := by
  have m2 := hm.1.2.2.1
  have a0 := R.2.1 (4 * d) (Or.inl ⟨by omega, by omega⟩)
  have a1 := R.2.1 (4 * d + 1) (Or.inl ⟨by omega, by omega⟩)
  have a2 := R.2.1 (4 * d + 2) (Or.inl ⟨by omega, by omega⟩)
  have a3 := R.2.1 (4 * d + 3) (Or.inl ⟨by omega, by omega⟩)
  rw [CV_0 d0 (by omega)] at a0
  rw [CV_1 d0 (by omega)] at a1
  rw [CV_2 d0 (by omega)] at a2
  rw [CV_3 d0 (by omega)] at a3
  exact ⟨a0, a1, a2, a3⟩
theorem Rel.nh {g c m : zH} {t : Int} (R : Rel g c m t) (hm : MB m) {i : Int} (d0 : 0 ≤ i) (d1 : i < m 240 5) : c 29 i = m 244 (24 + i) := by
  have m2 := hm.1.2.2.2.1
  have a0 := R.2.1 (24 + i) (Or.inr (Or.inl ⟨by omega, by omega⟩))
  rw [CV_h d0 (by omega)] at a0
  exact a0
theorem Rel.nl {g c m : zH} {t : Int} (R : Rel g c m t) : c 24 5 = m 244 28 := by
  have a0 := R.2.1 28 (Or.inr (Or.inr rfl))
  rw [CV_l] at a0
  exact a0
theorem MB.nw {m : zH} (hm : MB m) {d : Int} (d0 : 0 ≤ d) (d1 : d < m 240 3) : (0 ≤ m 244 (4 * d) ∧ m 244 (4 * d) < m 240 0) ∧ (0 ≤ m 244 (4 * d + 1) ∧ m 244 (4 * d + 1) ≤ 99) ∧ (0 ≤ m 244 (4 * d + 2) ∧ m 244 (4 * d + 2) ≤ 9999) ∧ (0 ≤ m 244 (4 * d + 3) ∧ m 244 (4 * d + 3) ≤ 999) := by
  have q := hm.2.2.2.2.1.1 d d0 d1
  rw [show (0 : Int) + 4 * d = 4 * d by omega] at q
  exact q
theorem MB.nh {m : zH} (hm : MB m) {i : Int} (d0 : 0 ≤ i) (d1 : i < m 240 5) : 0 ≤ m 244 (24 + i) ∧ m 244 (24 + i) ≤ 9 := by
  have q := hm.2.2.2.2.1.2.1 i d0 d1
  rw [show (0 : Int) + 24 + i = 24 + i by omega] at q
  exact q
theorem MB.nl {m : zH} (hm : MB m) : 0 ≤ m 244 28 ∧ m 244 28 < pw (m 240 3) := by
  have q := hm.2.2.2.2.1.2.2
  rw [show (0 : Int) + 28 = 28 by omega] at q
  exact q
/-- the class keeps its bounds where the reference does -/
theorem Rel.cb {g c m : zH} {t : Int} (R : Rel g c m t) (hm : MB m) : CB c t := by
  obtain ⟨⟨⟨t0, t1, t2, t3⟩, rp, rd, rc⟩, rn, ⟨rk, rh⟩, ri, ⟨rw, rv⟩, rx, ry, rz⟩ := id R
  obtain ⟨⟨m0, m1, m2, m3, m4, m5, m6, m7⟩, mp, md, mn, nb, _, _, mh, mt⟩ := id hm
  refine ⟨⟨⟨?_, ?_, ?_, ?_⟩, ?_, ?_, ?_⟩, ⟨?_, ?_, ?_⟩, ?_, ?_, ?_, ?_, ?_⟩
  · rw [t0]; exact m0
  · rw [t1]; exact m1
  · rw [t2]; exact m2
  · rw [t3]; exact m3
  · intro p p0 p1
    rw [t1] at p1
    obtain ⟨e1, e2, e3⟩ := rp p p0 p1
    rw [e1, e2, e3, t0]
    exact mp p p0 p1
  · intro d p0 p1
    rw [t2] at p1
    obtain ⟨e1, e2, e3⟩ := rd d p0 p1
    rw [e1, e2, e3, t2]
    exact md d p0 p1
  · intro d p0 p1
    rw [t3] at p1
    rw [rc d p0 p1]
    exact mn d p0 p1
  · intro d d0 d1
    rw [t2] at d1
    have q := R.n0 hm d0 d1
    have w := hm.nw d0 d1
    rw [← q.1, ← q.2.1, ← q.2.2.1, ← q.2.2.2, ← t0] at w
    exact w
  · intro d d0 d1
    rw [t3] at d1
    have w := hm.nh d0 d1
    rw [← R.nh hm d0 d1] at w
    exact w
  · have w := hm.nl
    rw [← R.nl, ← t2] at w
    exact w
  · rw [rk]; exact m4
  · rw [rw]; exact m5
  · intro i i0 i1
    rw [rw] at i1
    rw [(rv i i0 i1).1, t1]
    exact (mh i i0 i1).1
  · rw [ry]; exact m6
  · rw [rx]; exact m7
