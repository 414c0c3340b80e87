/-! What holds between two calls of the law. -/
def IV (g h : zH) (t k : Int) : Prop := Rel g h h t ∧ MB h ∧ zGd g ∧ HG g ∧ (t = 4 ∨ t = 14) ∧ g 1 1 = t ∧ g 1 2 = 18 - t ∧ h 240 14 ≤ 200000 * k
theorem IV.si {g h : zH} {t k : Int} (V : IV g h t k) (hk : k ≤ 600) : SI g h h t := by
  obtain ⟨R, hm, hg, H, ht, t1, t2, tr⟩ := V
  exact ⟨R, hm, hg, H, ht, by omega⟩
theorem usM_ge {a b : Int} (h : usM a b) : 240 ≤ a := by unfold usM at h; omega
theorem usC_lt {t a b : Int} (ht : t = 4 ∨ t = 14) (h : usC t a b) : a < 240 := by unfold usC at h; omega
/-- a deed, in both -/
theorem law_st {g h : zH} {t k : Int} (V : IV g h t k) (hk : k ≤ 600) (X : Int × zH × zH) (Y : zH → Int × zH) (hS : ∀ m, SI g h m t → St t g h m X (Y m)) : MB X.2.2 ∧ zGd X.2.1 ∧ X.1 = (Y X.2.2).1 ∧ IV X.2.1 (Y X.2.2).2 t (k + 1) := by
  have S0 := V.si hk
  obtain ⟨R, hm, hg, H, ht, t1, t2, tr⟩ := V
  have s0 := hS h S0
  have fr := s0.2.2.2.2.2.2.1
  have em : ∀ a b, usM a b → X.2.2 a b = h a b := fun a b u => fr a b (usM_ge u)
  have mb := MB_m em hm
  have e14 := em 240 14 (by unfold usM; omega)
  have S1 : SI g h X.2.2 t := ⟨Rel_m em R, mb, hg, H, ht, by rw [e14]; exact S0.2.2.2.2.2⟩
  obtain ⟨v, r1, m1, g1, h1, o1, _, f2, tr1⟩ := hS X.2.2 S1
  refine ⟨mb, g1, v, Rel_c h1 m1.1.2.2.2.2.1 m1.hi (fun a b u => f2 a b (usC_lt ht u)) r1, m1, g1, h1, ht, ?_, ?_, by omega⟩
  · rw [o1]; exact t1
  · rw [o1]; exact t2
theorem law_id {g h : zH} {t k : Int} (V : IV g h t k) : IV g h t (k + 1) := by
  obtain ⟨R, hm, hg, H, ht, t1, t2, tr⟩ := V
  exact ⟨R, hm, hg, H, ht, t1, t2, by omega⟩
theorem SC_us {h h1 : zH} (a : SC h h1) : ∀ x y, usM x y → h1 x y = h x y := fun x y u => a x y (by have := usM_ge u; unfold cscr; omega)
theorem law_q1 {g h h1 : zH} {t k : Int} (V : IV g h t k) (a : SC h h1) : Rel g h h1 t ∧ MB h1 := ⟨Rel_m (SC_us a) V.1, MB_m (SC_us a) V.2.1⟩
theorem law_q {g h h1 h2 : zH} {t k : Int} (V : IV g h t k) (a : SC h h1) (b : SE h1 h2) : IV g h2 t (k + 1) := by
  obtain ⟨R1, mb⟩ := law_q1 V a
  obtain ⟨R, hm, hg, H, ht, t1, t2, tr⟩ := V
  have eb : ∀ x y, usM x y → h2 x y = h1 x y := fun x y u => b x y (by unfold usM at u; unfold mscr; omega)
  have mb2 := MB_m eb mb
  have ec : ∀ x y, usC t x y → h2 x y = h x y := fun x y u => by
    have lt := usC_lt ht u
    have n1 : ¬ mscr x y := by unfold mscr; omega
    have n2 : ¬ cscr x y := by unfold usC at u; unfold cscr; omega
    rw [b x y n1, a x y n2]
  refine ⟨Rel_c H mb2.1.2.2.2.2.1 mb2.hi ec (Rel_m eb R1), mb2, hg, H, ht, t1, t2, ?_⟩
  rw [eb 240 14 (by unfold usM; omega), SC_us a 240 14 (by unfold usM; omega)]
  omega
theorem zcmp_z {a b : Int} (e : a = b) : zcmp a b = 0 := by
  unfold zcmp
  rw [if_neg (by omega), if_pos e]
theorem qX10_way2 {l : Launch} {g h : zH} {Q : zQt} (hg : zGd g) (hm : MB h) {d r x : Int} (hQ : ∀ h', SE h h' → Q (some (zi (wayF h d r x))) (SHL, g) h') : zC l mX10_way [zr 240, zi d, zi r, zi x] (SHL, g) h Q :=
  qX10_way hg hm (fun f => hQ _ (fun a b n => by unfold hf; rw [if_neg (fun z => n (Or.inl z.1))])) (hQ _ (SE_rf h))
theorem qX10_pair2 {l : Launch} {g h : zH} {Q : zQt} (hg : zGd g) (hm : MB h) {d : Int} (hQ : ∀ h', SE h h' → Q (some (zi (pairF h d))) (SHL, g) h') : zC l mX10_pair [zr 240, zi d] (SHL, g) h Q :=
  qX10_pair hg hm (fun f => hQ _ (fun a b n => har_ne (fun z => n (Or.inr (Or.inl z))))) (hQ _ (SE_rf h))
theorem back_hk {g h : zH} {t k : Int} (V : IV g h t k) {j : Int} (j0 : 0 ≤ j) (j1 : j ≤ 1) (z : ¬ h (102 + 69 * j) 2 = 0) : 0 ≤ h (102 + 69 * j + 7) 1 ∧ h (102 + 69 * j + 7) 1 ≤ 10 ∧ ∀ d, 0 ≤ d → d < h t 2 → 0 ≤ h (102 + 69 * j + 3) d ∧ h (102 + 69 * j + 3) d ≤ 99 := by
  obtain ⟨R, hm, hg, H, ht, t1, t2, tr⟩ := V
  have m2 := hm.1.2.2.1
  obtain ⟨q1, q2⟩ := R.2.2.2.1 j j0 (by omega)
  obtain ⟨p1, p2⟩ := hm.2.2.2.2.2.2.1 j j0 (by omega)
  have y1 : h 247 j = 1 := by omega
  obtain ⟨x1, x2, x3⟩ := q2 y1
  obtain ⟨n1, n2, n3⟩ := p2 y1
  rw [show (109 : Int) + 69 * j = 102 + 69 * j + 7 by omega] at x2
  refine ⟨by omega, by omega, fun d d0 d1 => ?_⟩
  rw [R.1.1.2.2.1] at d1
  have a1 := x1 (4 * d + 1) (Or.inl ⟨by omega, by omega⟩)
  rw [CV_1 d0 (by omega), ← Int.add_assoc, show (103 : Int) + 69 * j + 2 = 102 + 69 * j + 3 by omega] at a1
  rw [a1]
  exact (n1.1 d d0 d1).2.1
/-- both begin -/
theorem st_1 : ∀ q ∈ STAT, 1 ≤ q.1 := by decide +kernel
theorem st_one : ∀ q ∈ STAT, q.1 = 1 → q ∈ ONE := by decide +kernel
theorem st_92 : ∀ q ∈ STAT, q.1 = 92 → q = (92, 0, 102) ∨ q = (92, 1, 171) := by decide +kernel
theorem st_240 : ∀ q ∈ STAT, 239 < q.1 → q.1 = 240 ∧ (q.2.1, q.2.2 - 240) ∈ MPUT := by decide +kernel
theorem mp_16 : ∀ q ∈ MPUT, q.2 ≤ 16 := by decide +kernel
theorem IV_0 {G1 h1 G h : zH} (sg : SG 239 9 G1 h1) (w0 : G1 92 0 = 102) (w1 : G1 92 1 = 171) (mi : MI 240 240 (znw G1 240) (zup (zup (znw h1 240) 240 0 4) 240 18 (-9)) 16 G h) : IV G h 4 0 := by
  obtain ⟨s1, s2, s3, s4⟩ := sg
  obtain ⟨i1, i2, i3, i4⟩ := mi
  have gl : ∀ a b : Int, a ≤ 239 → G a b = G1 a b := fun a b a0 => by rw [i1 a b (by omega) (by omega), znw_ne (by omega)]
  have hl : ∀ a b : Int, 1 ≤ a → a ≤ 239 → h a b = if (a = 4 ∨ a = 14) ∧ b = 0 then 4 else 0 := fun a b a0 a1 => by rw [i3 a b (by omega), zup_ne (by omega), zup_ne (by omega), znw_ne (by omega)]; exact s4 a b a0 a1
  have h4 : ∀ b : Int, ¬ b = 0 → ¬ b = 18 → h 240 b = 0 := fun b b0 b1 => by rw [i3 240 b (by omega), zup_ne (by omega), zup_ne (by omega), znw_at]
  have h40 : h 240 0 = 4 := by rw [i3 240 0 (by omega), zup_ne (by omega), zup_same]
  have hz : ∀ a b : Int, 241 ≤ a → a ≤ 256 → h a b = 0 := fun a b a0 a1 => i4 a b (by omega) (by omega)
  have z : ∀ a b : Int, 1 ≤ a → a ≤ 239 → ¬ b = 0 → h a b = 0 := fun a b a0 a1 b0 => by rw [hl a b a0 a1, if_neg (fun w => b0 w.2)]
  have z2 : ∀ a b : Int, 15 ≤ a → a ≤ 239 → h a b = 0 := fun a b a0 a1 => by rw [hl a b (by omega) a1, if_neg (by omega)]
  have h440 : h 4 0 = 4 := by rw [hl 4 0 (by omega) (by omega), if_pos (by omega)]
  have e1 := h4 1 (by omega) (by omega)
  have e3 := h4 3 (by omega) (by omega)
  have e5 := h4 5 (by omega) (by omega)
  have e9 := h4 9 (by omega) (by omega)
  have e13 := h4 13 (by omega) (by omega)
  have e14 := h4 14 (by omega) (by omega)
  have e16 := h4 16 (by omega) (by omega)
  refine ⟨⟨⟨⟨by rw [h440, h40], by rw [z 4 1 (by omega) (by omega) (by omega), e1], by rw [z 4 2 (by omega) (by omega) (by omega), e3], by rw [z 4 3 (by omega) (by omega) (by omega), e5]⟩, fun p p0 p1 => by omega, fun p p0 p1 => by omega, fun p p0 p1 => by omega⟩, fun k hk => ?_, ⟨by rw [z2 30 1 (by omega) (by omega), e9], fun i i0 i1 => by omega⟩, fun j j0 j1 => ⟨by rw [z2 _ 2 (by omega) (by omega), hz 247 j (by omega) (by omega)], fun y => by rw [hz 247 j (by omega) (by omega)] at y; omega⟩, ⟨by rw [z2 93 2 (by omega) (by omega), e13], fun i i0 i1 => by omega⟩, by rw [z 1 9 (by omega) (by omega) (by omega), e14], by rw [z 2 1 (by omega) (by omega) (by omega), e16], fun i i0 i1 => by omega⟩, ?_, fun q hq => ?_, ⟨fun i i0 i1 => ⟨i, i0, i1, by rw [gl 31 i (by omega)]; exact s3 (by omega) i i0 i1⟩, fun i j i0 i1 j0 j1 e => ?_⟩, Or.inl rfl, ?_, ?_, ?_⟩
  · unfold vk at hk
    have k28 : k = 28 := by omega
    rw [k28, CV_l, z2 24 5 (by omega) (by omega), hz 244 28 (by omega) (by omega)]
  · have pp := pw_pos (h 240 3)
    refine ⟨⟨by omega, by omega, by omega, by omega, by omega, by omega, by omega, by omega⟩, fun p p0 p1 => by omega, fun p p0 p1 => by omega, fun p p0 p1 => by omega, ⟨fun p p0 p1 => by omega, fun p p0 p1 => by omega, ?_⟩, fun p p0 p1 => by omega, fun j j0 j1 => ⟨Or.inl (hz 247 j (by omega) (by omega)), fun y => by rw [hz 247 j (by omega) (by omega)] at y; omega⟩, fun p p0 p1 => by omega, fun p p0 p1 => by omega⟩
    rw [hz 244 _ (by omega) (by omega)]
    omega
  · have q1 := st_1 q hq
    by_cases y : q.1 = 1
    · have o := st_one q hq y
      rw [y, gl 1 _ (by omega)]
      exact s2 q o (by
        have : ∀ q ∈ ONE, q.2.1 < 9 := by decide +kernel
        exact this q o)
    · by_cases x : q.1 = 92
      · rcases st_92 q hq x with e | e
        · rw [e]; show G 92 0 = 102; rw [gl 92 0 (by omega)]; exact w0
        · rw [e]; show G 92 1 = 171; rw [gl 92 1 (by omega)]; exact w1
      · by_cases w : q.1 ≤ 239
        · rw [gl _ _ w]
          exact s1 q hq (by omega) w x
        · obtain ⟨o1, o2⟩ := st_240 q hq (by omega)
          have o3 := i2 _ o2 (mp_16 _ o2)
          rw [o1]
          have o4 : G 240 q.2.1 = 240 + (q.2.2 - 240) := o3
          rw [o4]
          omega
  · rw [gl 31 i (by omega), gl 31 j (by omega), s3 (by omega) i i0 i1, s3 (by omega) j j0 j1] at e
    omega
  · rw [gl 1 1 (by omega)]; exact s2 (1, 1, 4) (by decide +kernel) (by decide)
  · rw [gl 1 2 (by omega)]; exact s2 (1, 2, 14) (by decide +kernel) (by decide)
  · omega
