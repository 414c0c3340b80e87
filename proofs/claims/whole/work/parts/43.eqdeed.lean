/-! The deeds: class and reference do alike. -/
def bk (R D k x : Int) : Prop := 0 ≤ x ∧ (k < 24 → (k % 4 = 0 → x < R) ∧ (k % 4 = 1 → x ≤ 99) ∧ (k % 4 = 2 → x ≤ 9999) ∧ (k % 4 = 3 → x ≤ 999)) ∧ (24 ≤ k → k < 28 → x ≤ 9) ∧ (k = 28 → x < pw D)
theorem vk_r {m : zH} (hm : MB m) {k : Int} (h : vk m k) : 0 ≤ k ∧ k ≤ 28 := by
  have m2 := hm.1.2.2.1
  have m3 := hm.1.2.2.2.1
  unfold vk at h
  omega
theorem NB_to {m : zH} {A o : Int} (hD : 0 ≤ m 240 3 ∧ m 240 3 ≤ 6) (hC : 0 ≤ m 240 5 ∧ m 240 5 ≤ 4) (h : NB m A o) : ∀ k, vk m k → bk (m 240 0) (m 240 3) k (m A (o + k)) := by
  intro k hk
  obtain ⟨n1, n2, n3⟩ := h
  rcases hk with ⟨k0, k1⟩ | ⟨k0, k1⟩ | k0
  · have q := n1 (k / 4) (by omega) (by omega)
    unfold bk
    rcases (show k % 4 = 0 ∨ k % 4 = 1 ∨ k % 4 = 2 ∨ k % 4 = 3 by omega) with z | z | z | z
    · rw [show o + 4 * (k / 4) = o + k by omega] at q
      exact ⟨by omega, fun _ => ⟨by omega, by omega, by omega, by omega⟩, by omega, by omega⟩
    · rw [show o + 4 * (k / 4) + 1 = o + k by omega] at q
      exact ⟨by omega, fun _ => ⟨by omega, by omega, by omega, by omega⟩, by omega, by omega⟩
    · rw [show o + 4 * (k / 4) + 2 = o + k by omega] at q
      exact ⟨by omega, fun _ => ⟨by omega, by omega, by omega, by omega⟩, by omega, by omega⟩
    · rw [show o + 4 * (k / 4) + 3 = o + k by omega] at q
      exact ⟨by omega, fun _ => ⟨by omega, by omega, by omega, by omega⟩, by omega, by omega⟩
  · have q := n2 (k - 24) (by omega) (by omega)
    rw [show o + 24 + (k - 24) = o + k by omega] at q
    exact ⟨by omega, by omega, by omega, by omega⟩
  · subst k0
    exact ⟨n3.1, by omega, by omega, fun _ => n3.2⟩
theorem NB_of {m : zH} {A o : Int} (hD : 0 ≤ m 240 3 ∧ m 240 3 ≤ 6) (hC : 0 ≤ m 240 5 ∧ m 240 5 ≤ 4) (h : ∀ k, vk m k → bk (m 240 0) (m 240 3) k (m A (o + k))) : NB m A o := by
  refine ⟨fun d d0 d1 => ?_, fun c c0 c1 => ?_, ?_⟩
  · have a0 := h (4 * d) (Or.inl ⟨by omega, by omega⟩)
    have a1 := h (4 * d + 1) (Or.inl ⟨by omega, by omega⟩)
    have a2 := h (4 * d + 2) (Or.inl ⟨by omega, by omega⟩)
    have a3 := h (4 * d + 3) (Or.inl ⟨by omega, by omega⟩)
    rw [← Int.add_assoc] at a1 a2 a3
    exact ⟨⟨a0.1, (a0.2.1 (by omega)).1 (by omega)⟩, ⟨a1.1, (a1.2.1 (by omega)).2.1 (by omega)⟩, ⟨a2.1, (a2.2.1 (by omega)).2.2.1 (by omega)⟩, ⟨a3.1, (a3.2.1 (by omega)).2.2.2 (by omega)⟩⟩
  · have a0 := h (24 + c) (Or.inr (Or.inl ⟨by omega, by omega⟩))
    rw [← Int.add_assoc] at a0
    exact ⟨a0.1, a0.2.2.1 (by omega) (by omega)⟩
  · have a0 := h 28 (Or.inr (Or.inr rfl))
    exact ⟨a0.1, a0.2.2.2 rfl⟩
theorem NB_eq {m m' : zH} {A A' o o' : Int} (hD : 0 ≤ m 240 3 ∧ m 240 3 ≤ 6) (hC : 0 ≤ m 240 5 ∧ m 240 5 ≤ 4) (e0 : m' 240 0 = m 240 0) (e3 : m' 240 3 = m 240 3) (e5 : m' 240 5 = m 240 5) (e : ∀ k, vk m k → m' A' (o' + k) = m A (o + k)) (h : NB m A o) : NB m' A' o' := by
  refine NB_of (by rw [e3]; exact hD) (by rw [e5]; exact hC) (fun k hk => ?_)
  have hk' : vk m k := by unfold vk at *; rw [e3, e5] at hk; exact hk
  rw [e0, e3, e k hk']
  exact NB_to hD hC h k hk'
theorem MB_of {m m' : zH} (e : ∀ a b, usM a b → a ≠ 244 → a ≠ 245 → ¬ (a = 240 ∧ b = 9) → m' a b = m a b) (hm : MB m) (h1 : NB m' 244 0) (h2 : 0 ≤ m' 240 9 ∧ m' 240 9 ≤ 10) (h3 : ∀ i, 0 ≤ i → i < m' 240 9 → NB m' 245 (29 * i)) : MB m' := by
  have e0 := e 240 0 (by unfold usM; omega) (by omega) (by omega) (by omega)
  have e1 := e 240 1 (by unfold usM; omega) (by omega) (by omega) (by omega)
  have e3 := e 240 3 (by unfold usM; omega) (by omega) (by omega) (by omega)
  have e5 := e 240 5 (by unfold usM; omega) (by omega) (by omega) (by omega)
  have e13 := e 240 13 (by unfold usM; omega) (by omega) (by omega) (by omega)
  have e14 := e 240 14 (by unfold usM; omega) (by omega) (by omega) (by omega)
  have e16 := e 240 16 (by unfold usM; omega) (by omega) (by omega) (by omega)
  have f1 := fun b => e 241 b (by unfold usM; omega) (by omega) (by omega) (by omega)
  have f2 := fun b => e 242 b (by unfold usM; omega) (by omega) (by omega) (by omega)
  have f3 := fun b => e 243 b (by unfold usM; omega) (by omega) (by omega) (by omega)
  have f6 := fun b => e 246 b (by unfold usM; omega) (by omega) (by omega) (by omega)
  have f7 := fun b => e 247 b (by unfold usM; omega) (by omega) (by omega) (by omega)
  have f8 := fun b => e 248 b (by unfold usM; omega) (by omega) (by omega) (by omega)
  have f9 := fun b => e 249 b (by unfold usM; omega) (by omega) (by omega) (by omega)
  obtain ⟨⟨q0, q1, q2, q3, q4, q5, q6, q7⟩, mp, md, mn, _, _, mi, mh, mt⟩ := hm
  refine ⟨⟨by rw [e0]; exact q0, by rw [e1]; exact q1, by rw [e3]; exact q2, by rw [e5]; exact q3, h2, by rw [e13]; exact q5, by rw [e16]; exact q6, by rw [e14]; exact q7⟩, ?_, ?_, ?_, h1, h3, ?_, ?_, ?_⟩
  · unfold MBp at *; simp only [e0, e1, f1]; exact mp
  · unfold MBd at *; simp only [e3, f2]; exact md
  · unfold MBn at *; simp only [e5, f3]; exact mn
  · unfold MBi NB at *; simp only [e0, e3, e5, f6, f7]; exact mi
  · unfold MBh at *; simp only [e1, e13, f8]; exact mh
  · unfold MBt at *; simp only [e16, f9]; exact mt
theorem Rel_of {g g' c c' m m' : zH} {t : Int} (ht : t = 4 ∨ t = 14) (hm : MB m) (ec : ∀ a b, usC t a b → (a < 24 ∨ 91 < a) → c' a b = c a b) (em : ∀ a b, usM a b → a ≠ 244 → a ≠ 245 → ¬ (a = 240 ∧ b = 9) → m' a b = m a b) (R : Rel g c m t) (h1 : RelN c' m') (h2 : RelH g' c' m') : Rel g' c' m' t := by
  have e0 := em 240 0 (by unfold usM; omega) (by omega) (by omega) (by omega)
  have e1 := em 240 1 (by unfold usM; omega) (by omega) (by omega) (by omega)
  have e3 := em 240 3 (by unfold usM; omega) (by omega) (by omega) (by omega)
  have e5 := em 240 5 (by unfold usM; omega) (by omega) (by omega) (by omega)
  have e13 := em 240 13 (by unfold usM; omega) (by omega) (by omega) (by omega)
  have e14 := em 240 14 (by unfold usM; omega) (by omega) (by omega) (by omega)
  have e16 := em 240 16 (by unfold usM; omega) (by omega) (by omega) (by omega)
  have f1 := fun b => em 241 b (by unfold usM; omega) (by omega) (by omega) (by omega)
  have f2 := fun b => em 242 b (by unfold usM; omega) (by omega) (by omega) (by omega)
  have f3 := fun b => em 243 b (by unfold usM; omega) (by omega) (by omega) (by omega)
  have f6 := fun b => em 246 b (by unfold usM; omega) (by omega) (by omega) (by omega)
  have f7 := fun b => em 247 b (by unfold usM; omega) (by omega) (by omega) (by omega)
  have f8 := fun b => em 248 b (by unfold usM; omega) (by omega) (by omega) (by omega)
  have f9 := fun b => em 249 b (by unfold usM; omega) (by omega) (by omega) (by omega)
  have hi := hm.hi
  obtain ⟨⟨⟨t0, t1, t2, t3⟩, rp, rd, rc⟩, _, _, ri, ⟨rw, rv⟩, rx, ry, rz⟩ := R
  have et := fun b => ec t b (by unfold usC; omega) (by omega)
  refine ⟨⟨⟨by rw [et, e0]; exact t0, by rw [et, e1]; exact t1, by rw [et, e3]; exact t2, by rw [et, e5]; exact t3⟩, ?_, ?_, ?_⟩, h1, h2, ?_, ⟨?_, ?_⟩, ?_, ?_, ?_⟩
  · intro p p0 p1
    rw [ec (t + 1) p (by unfold usC; omega) (by omega), ec (t + 2) p (by unfold usC; omega) (by omega), ec (t + 3) p (by unfold usC; omega) (by omega), f1, f1, f1]
    exact rp p p0 (by rw [← e1]; exact p1)
  · intro p p0 p1
    rw [ec (t + 4) p (by unfold usC; omega) (by omega), ec (t + 6) p (by unfold usC; omega) (by omega), ec (t + 8) p (by unfold usC; omega) (by omega), f2, f2, f2]
    exact rd p p0 (by rw [← e3]; exact p1)
  · intro p p0 p1
    rw [ec (t + 9) p (by unfold usC; omega) (by omega), f3]
    exact rc p p0 (by rw [← e5]; exact p1)
  · intro j j0 j1
    rw [ec (102 + 69 * j) 2 (by unfold usC; omega) (by omega), f7]
    refine ⟨(ri j j0 j1).1, fun z => ?_⟩
    obtain ⟨x1, x2, x3⟩ := (ri j j0 j1).2 z
    have q9 := hi j j0 j1 z
    unfold RelI vk at *
    simp only [e3, e5, f6]
    refine ⟨fun k hk => ?_, ?_, fun i i0 i1 k hk => ?_⟩
    · rw [CV_congr (h := c) (fun a b a0 a1 => ec a b (by unfold usC; omega) (by omega)) k]
      exact x1 k hk
    · rw [ec (109 + 69 * j) 1 (by unfold usC; omega) (by omega)]; exact x2
    · rw [CV_congr (h := c) (fun a b a0 a1 => ec a b (by unfold usC; omega) (by omega)) k]
      exact x3 i i0 i1 k hk
  · rw [ec 93 2 (by unfold usC; omega) (by omega), e13]; exact rw
  · intro i i0 i1
    rw [ec 94 i (by unfold usC; omega) (by omega), ec 95 i (by unfold usC; omega) (by omega), f8, f8]
    exact rv i i0 (by rw [← e13]; exact i1)
  · rw [ec 1 9 (by unfold usC; omega) (by omega), e14]; exact rx
  · rw [ec 2 1 (by unfold usC; omega) (by omega), e16]; exact ry
  · intro i i0 i1
    rw [ec 3 i (by unfold usC; omega) (by omega), f9]
    exact rz i i0 (by rw [← e16]; exact i1)
/-- what stands ahead of a call, and behind it -/
def SI (g c m : zH) (t : Int) : Prop := Rel g c m t ∧ MB m ∧ zGd g ∧ HG g ∧ (t = 4 ∨ t = 14) ∧ m 240 14 + 200000 ≤ 2000000000
def St (t : Int) (g c m : zH) (x : Int × zH × zH) (y : Int × zH) : Prop := x.1 = y.1 ∧ Rel x.2.1 x.2.2 y.2 t ∧ MB y.2 ∧ zGd x.2.1 ∧ HG x.2.1 ∧ x.2.1 1 = g 1 ∧ (∀ a b, 240 ≤ a → x.2.2 a b = c a b) ∧ (∀ a b, a < 240 → y.2 a b = m a b) ∧ y.2 240 14 ≤ m 240 14 + 200000
theorem St_same {g c m : zH} {t : Int} (S : SI g c m t) (v : Int) : St t g c m (v, g, c) (v, m) := ⟨rfl, S.1, S.2.1, S.2.2.1, S.2.2.2.1, rfl, fun _ _ _ => rfl, fun _ _ _ => rfl, show m 240 14 ≤ m 240 14 + 200000 by omega⟩
/-- the past, once more is remembered -/
theorem KP_k {m : zH} (hm : MB m) : 0 ≤ KP1 m 240 9 ∧ KP1 m 240 9 ≤ 9 ∧ KP m 240 9 = KP1 m 240 9 + 1 := by
  have q := KP1_acts hm.1.2.2.2.2.1.1 hm.1.2.2.2.2.1.2
  exact ⟨q.1, q.2, zup_same _ _ _ _⟩
theorem KP1_old {m : zH} (hm : MB m) {i k : Int} (i0 : 0 ≤ i) (i1 : i < KP1 m 240 9) (k0 : 0 ≤ k) (k1 : k ≤ 28) : KP1 m 245 (29 * i + k) = m 245 (29 * (if m 240 9 = 10 then i + 1 else i) + k) := by
  have q := KP_k hm
  by_cases z : m 240 9 = 10
  · have e : KP1 m = zup (cpo m 245 0 245 29 261) 240 9 9 := if_pos z
    rw [if_pos z, e, zup_ne (by omega), cpo_in (by omega) (by omega), show 29 * i + k - 0 + 29 = 29 * (i + 1) + k by omega]
  · have e : KP1 m = m := if_neg z
    rw [if_neg z, e]
theorem KP_old {m : zH} (hm : MB m) {i k : Int} (i0 : 0 ≤ i) (i1 : i < KP1 m 240 9) (k0 : 0 ≤ k) (k1 : k ≤ 28) : KP m 245 (29 * i + k) = m 245 (29 * (if m 240 9 = 10 then i + 1 else i) + k) := by
  have q := KP_k hm
  rw [← KP1_old hm i0 i1 k0 k1]
  unfold KP
  rw [zup_ne (by omega), cpo_out (by omega)]
theorem KP_new {m : zH} (hm : MB m) {k : Int} (k0 : 0 ≤ k) (k1 : k ≤ 28) : KP m 245 (29 * KP1 m 240 9 + k) = m 244 k := by
  have q := KP_k hm
  unfold KP
  rw [zup_ne (by omega), cpo_in (by omega) (by omega), show 29 * KP1 m 240 9 + k - 29 * KP1 m 240 9 + 0 = k by omega, KP1_ne (by omega) (by omega)]
theorem KP1_9 {m : zH} : KP1 m 240 9 = if m 240 9 = 10 then 9 else m 240 9 := by
  unfold KP1
  split
  · exact zup_same _ _ _ _
  · rfl
theorem rm_k {c m : zH} (e : c 30 1 = m 240 9) : rmH c 30 1 = KP1 m 240 9 := by
  rw [KP1_9, ← e]
  unfold rmH
  split
  · exact zup_same _ _ _ _
  · rfl
theorem rm_i {g c m : zH} (hm : MB m) (e : c 30 1 = m 240 9) {i : Int} (i0 : 0 ≤ i) (i1 : i < KP1 m 240 9) : rmG g c 31 i = g 31 (if m 240 9 = 10 then i + 1 else i) := by
  have q := KP_k hm
  unfold rmG
  rw [e]
  by_cases z : m 240 9 = 10
  · rw [if_pos z, if_pos z, rot_i i0 (by omega)]
  · rw [if_neg z, if_neg z]
theorem NB_KP {m : zH} (hm : MB m) : ∀ i, 0 ≤ i → i < KP m 240 9 → NB (KP m) 245 (29 * i) := by
  have q := KP_k hm
  have m2 := hm.1.2.2.1
  have m3 := hm.1.2.2.2.1
  have k9 := KP1_9 (m := m)
  have m4 := hm.1.2.2.2.2.1
  intro i i0 i1
  by_cases z : i = KP1 m 240 9
  · subst z
    refine NB_eq (m := m) (A := 244) (o := 0) m2 m3 (KP_ne (by omega) (by omega)) (KP_ne (by omega) (by omega)) (KP_ne (by omega) (by omega)) (fun k hk => ?_) hm.2.2.2.2.1
    have r := vk_r hm hk
    rw [KP_new hm r.1 r.2, Int.zero_add]
  · refine NB_eq (m := m) (A := 245) (o := 29 * (if m 240 9 = 10 then i + 1 else i)) m2 m3 (KP_ne (by omega) (by omega)) (KP_ne (by omega) (by omega)) (KP_ne (by omega) (by omega)) (fun k hk => ?_) (hm.2.2.2.2.2.1 _ (by split <;> omega) (by split <;> split at k9 <;> omega))
    have r := vk_r hm hk
    exact KP_old hm i0 (by omega) r.1 r.2
theorem RelH_KP {g c m : zH} {t : Int} (S : SI g c m t) : RelH (rmG g c) (remH g c) (KP m) := by
  obtain ⟨R, hm, hg, H, ht, _⟩ := S
  have q := KP_k hm
  have m4 := hm.1.2.2.2.2.1
  obtain ⟨e9, hh⟩ := R.2.2.1
  have rk := rm_k e9
  have HG' : HG (rmG g c) := rmG_H H
  have k9 := KP1_9 (m := m)
  refine ⟨?_, fun i i0 i1 k hk => ?_⟩
  · rw [q.2.2]
    unfold remH
    rw [zup_same, rk]
  · have hk' : vk m k := by unfold vk at *; rw [KP_ne (by omega) (by omega), KP_ne (by omega) (by omega)] at hk; exact hk
    have r := vk_r hm hk'
    have gr := HG'.rg i0 (show i < 10 by omega)
    have gk := HG'.rg q.1 (show KP1 m 240 9 < 10 by omega)
    by_cases z : i = KP1 m 240 9
    · subst z
      rw [KP_new hm r.1 r.2, ← R.2.1 k hk']
      unfold remH
      rw [CV_congr (h := CPN (rmH c) (rmG g c 31 (rmH c 30 1)) 24) (fun a b a0 a1 => zup_ne (by omega)) k, rk, CV_CPN (by unfold sep; omega) r.1 r.2]
      exact CV_congr (fun a b a0 a1 => rmH_ne (by omega)) k
    · rw [KP_old hm i0 (by omega) r.1 r.2, ← hh (if m 240 9 = 10 then i + 1 else i) (by split <;> omega) (by split <;> split at k9 <;> omega) k hk', ← rm_i (g := g) hm e9 i0 (by omega)]
      have sp := HG'.sp i0 (show i < 10 by omega) q.1 (show KP1 m 240 9 < 10 by omega) z
      unfold sep at sp
      unfold remH
      rw [CV_congr (h := CPN (rmH c) (rmG g c 31 (rmH c 30 1)) 24) (fun a b a0 a1 => zup_ne (by omega)) k, rk, CV_congr (h := rmH c) (fun a b a0 a1 => CPN_ne (by omega)) k]
      exact CV_congr (fun a b a0 a1 => rmH_ne (by omega)) k
/-- now, while it is changed -/
def NX (m0 c m : zH) : Prop := ∀ k, vk m0 k → CV c 24 k = m 244 k ∧ bk (m0 240 0) (m0 240 3) k (m 244 k)
def cor (a b k : Int) : Prop := (0 ≤ k ∧ k < 24 ∧ a = 25 + k % 4 ∧ b = k / 4) ∨ (24 ≤ k ∧ k < 28 ∧ a = 29 ∧ b = k - 24) ∨ (k = 28 ∧ a = 24 ∧ b = 5)
theorem NX_up {m0 c m : zH} (hm : MB m0) {a b k v : Int} (h : NX m0 c m) (hk : cor a b k) (hv : bk (m0 240 0) (m0 240 3) k v) : NX m0 (zup c a b v) (zup m 244 k v) := by
  intro k' hk'
  have r := vk_r hm hk'
  have q := h k' hk'
  unfold cor at hk
  rw [CV_up (k := k) (by omega) (by omega) r.1 r.2 (by omega)]
  by_cases z : k' = k
  · subst z
    rw [if_pos rfl, zup_same]
    exact ⟨rfl, hv⟩
  · rw [if_neg z, zup_ne (fun w => z w.2)]
    exact q
theorem NX_0 {g c m : zH} {t : Int} (S : SI g c m t) : NX m (remH g c) (KP m) := by
  obtain ⟨R, hm, hg, H, ht, _⟩ := S
  have m4 := hm.1.2.2.2.2.1
  intro k hk
  rw [CV_congr (fun a b a0 a1 => remH_ne H (by rw [R.2.2.1.1]; exact m4.1) (by rw [R.2.2.1.1]; exact m4.2) (by omega)) k, KP_ne (by omega) (by omega)]
  have q := NB_to hm.1.2.2.1 hm.1.2.2.2.1 hm.2.2.2.2.1 k hk
  rw [Int.zero_add] at q
  exact ⟨R.2.1 k hk, q⟩
theorem St_deed {g c m : zH} {t : Int} (S : SI g c m t) (v : Int) {c' m' : zH} (ec : ∀ a b, (a < 24 ∨ 29 < a) → c' a b = remH g c a b) (em : ∀ a b, a ≠ 244 → m' a b = KP m a b) (hn : NX m c' m') : St t g c m (v, rmG g c, c') (v, m') := by
  obtain ⟨R, hm, hg, H, ht, tr⟩ := id S
  have m4 := hm.1.2.2.2.2.1
  have rn : ∀ a b, (a < 30 ∨ 91 < a) → remH g c a b = c a b := fun a b ha => remH_ne H (by rw [R.2.2.1.1]; exact m4.1) (by rw [R.2.2.1.1]; exact m4.2) ha
  have em2 : ∀ a b, usM a b → a ≠ 244 → a ≠ 245 → ¬ (a = 240 ∧ b = 9) → m' a b = m a b := fun a b _ h1 h2 h3 => (em a b h1).trans (KP_ne h2 h3)
  have e3 := em2 240 3 (by unfold usM; omega) (by omega) (by omega) (by omega)
  have e0 := em2 240 0 (by unfold usM; omega) (by omega) (by omega) (by omega)
  have e5 := em2 240 5 (by unfold usM; omega) (by omega) (by omega) (by omega)
  have e14 := em2 240 14 (by unfold usM; omega) (by omega) (by omega) (by omega)
  have hH := RelH_KP S
  have HG' : HG (rmG g c) := rmG_H H
  have q := KP_k hm
  have vk' : ∀ k, vk m' k → vk m k := fun k hk => by unfold vk at *; rw [e3, e5] at hk; exact hk
  have vkK : ∀ k, vk m' k → vk (KP m) k := fun k hk => by unfold vk at *; rw [em 240 3 (by omega), em 240 5 (by omega)] at hk; exact hk
  have e9 := em 240 9 (by omega)
  have c0 : NB (KP m) 245 0 → True := fun _ => trivial
  refine ⟨rfl, ?_, ?_, rmG_d hg, HG', funext fun b => rmG_1, fun a b ha => (ec a b (by omega)).trans (rn a b (by omega)), fun a b ha => (em a b (by omega)).trans (KP_ne (by omega) (by omega)), ?_⟩
  · show Rel (rmG g c) c' m' t
    refine Rel_of ht hm (fun a b _ ha => (ec a b (by omega)).trans (rn a b (by omega))) em2 R (fun k hk => (hn k (vk' k hk)).1) ⟨?_, fun i i0 i1 k hk => ?_⟩
    · rw [ec 30 1 (by omega), e9]; exact hH.1
    · show CV c' (rmG g c 31 i) k = m' 245 (29 * i + k)
      rw [em 245 _ (by omega), ← hH.2 i i0 (by rw [← e9]; exact i1) k (vkK k hk)]
      replace i1 : i < m' 240 9 := i1
      have gr := HG'.rg i0 (show i < 10 by omega)
      exact CV_congr (fun a b a0 a1 => ec a b (by omega)) k
  · show MB m'
    refine MB_of em2 hm (NB_of (by rw [e3]; exact hm.1.2.2.1) (by rw [e5]; exact hm.1.2.2.2.1) (fun k hk => ?_)) (by rw [e9, q.2.2]; omega) (fun i i0 i1 => ?_)
    · rw [e0, e3, Int.zero_add]; exact (hn k (vk' k hk)).2
    · refine NB_eq (m := KP m) (by rw [KP_ne (by omega) (by omega)]; exact hm.1.2.2.1) (by rw [KP_ne (by omega) (by omega)]; exact hm.1.2.2.2.1) (em 240 0 (by omega)) (em 240 3 (by omega)) (em 240 5 (by omega)) (fun k hk => em 245 _ (by omega)) (NB_KP hm i i0 (by rw [← e9]; exact i1))
  · show m' 240 14 ≤ m 240 14 + 200000
    omega
theorem zup_comm {h : zH} {r k v r' k' v' : Int} (ne : ¬ (r = r' ∧ k = k')) : zup (zup h r k v) r' k' v' = zup (zup h r' k' v') r k v := by
  funext a b
  unfold zup
  by_cases z : a = r ∧ b = k
  · rw [if_neg (fun w => ne ⟨z.1.symm.trans w.1, z.2.symm.trans w.2⟩), if_pos z, if_pos z]
  · rw [if_neg z, if_neg z]
theorem eq_oth {g c m : zH} {t : Int} (R : Rel g c m t) {p : Int} (p0 : 0 ≤ p) (p1 : p < m 240 1) (r : Int) : othC c t p r = othM m p r := by
  obtain ⟨e1, e2, _⟩ := R.1.2.1 p p0 p1
  unfold othC othM
  rw [e1, e2]
theorem St_goes {g c m : zH} {t : Int} (S : SI g c m t) (d p : Int) : St t g c m (goesC g c t d p) (goesR m d p) := by
  obtain ⟨R, hm, hg, H, ht, tr⟩ := id S
  have m2 := hm.1.2.2.1
  unfold goesC goesR
  rw [R.1.1.2.2.1, R.1.1.2.1]
  by_cases z : 0 ≤ d ∧ d < m 240 3
  · by_cases y : 0 ≤ p ∧ p < m 240 1
    · have n := R.n0 hm z.1 z.2
      have b := hm.nw z.1 z.2
      have pp := hm.2.1 p y.1 y.2
      have may := eq_may R hm z.1 z.2 y.1 y.2
      rw [if_pos z, if_pos z, if_pos y, if_pos y, eq_oth R y.1 y.2, n.1]
      have ro : othM m p (m 244 (4 * d)) = -9 ∨ (0 ≤ othM m p (m 244 (4 * d)) ∧ othM m p (m 244 (4 * d)) < m 240 0) := by
        unfold othM
        split
        · exact Or.inr pp.2.1
        · split
          · exact Or.inr pp.1
          · exact Or.inl rfl
      generalize othM m p (m 244 (4 * d)) = o at *
      by_cases x : o = -9
      · rw [if_pos x, if_neg (by omega)]
        exact St_same S _
      · rw [if_neg x]
        by_cases w : mayM m d p
        · rw [if_pos w, if_pos ⟨by omega, may.2 w⟩, n.2.1, n.2.2.1, (R.1.2.1 p y.1 y.2).2.2, zup_comm (r := 244) (by omega)]
          have mb := mulb b.2.1.1 b.2.1.2 pp.2.2.1 pp.2.2.2
          refine St_deed S o (fun a b ha => (zup_ne (by omega)).trans (zup_ne (by omega))) (fun a b ha => (zup_ne (fun w => ha w.1)).trans (zup_ne (fun w => ha w.1))) ?_
          refine NX_up hm (NX_up hm (NX_0 S) (by unfold cor; omega) ⟨by omega, fun _ => ⟨by omega, by omega, by omega, by omega⟩, by omega, by omega⟩) (by unfold cor; omega) ⟨by omega, fun _ => ⟨by omega, by omega, by omega, by omega⟩, by omega, by omega⟩
        · rw [if_neg w, if_neg (fun q => w (may.1 q.2))]
          exact St_same S _
    · rw [if_pos z, if_pos z, if_neg y, if_neg y]
      exact St_same S _
  · rw [if_neg z, if_neg z]
    exact St_same S _
theorem St_rests {g c m : zH} {t : Int} (S : SI g c m t) (d : Int) : St t g c m (restsC g c t d) (restsR m d) := by
  obtain ⟨R, hm, hg, H, ht, tr⟩ := id S
  have m2 := hm.1.2.2.1
  unfold restsC restsR
  rw [R.1.1.2.2.1]
  by_cases z : 0 ≤ d ∧ d < m 240 3
  · have n := R.n0 hm z.1 z.2
    rw [if_pos z, if_pos z, n.2.2.1]
    by_cases x : m 244 (4 * d + 2) = 0
    · rw [if_pos x, if_pos x]
      exact St_same S _
    · rw [if_neg x, if_neg x]
      refine St_deed S _ (fun a b ha => (zup_ne (by omega))) (fun a b ha => (zup_ne (fun w => ha w.1))) ?_
      exact NX_up hm (NX_0 S) (by unfold cor; omega) ⟨by omega, fun _ => ⟨by omega, by omega, by omega, by omega⟩, by omega, by omega⟩
  · rw [if_neg z, if_neg z]
    exact St_same S _
theorem St_off {g c m : zH} {t : Int} (S : SI g c m t) (d i n : Int) : St t g c m (offC g c t d i n) (offR m d i n) := by
  obtain ⟨R, hm, hg, H, ht, tr⟩ := id S
  have m2 := hm.1.2.2.1
  have m3 := hm.1.2.2.2.1
  unfold offC offR
  rw [R.1.1.2.2.1, R.1.1.2.2.2]
  by_cases z : 0 ≤ d ∧ d < m 240 3
  · rw [if_pos z, if_pos z]
    by_cases y : 0 ≤ i ∧ i < m 240 5
    · rw [if_pos y, if_pos (show 0 ≤ i ∧ i ≤ m 240 5 - 1 by omega)]
      by_cases x : 1 ≤ n ∧ n ≤ 9
      · rw [if_pos x, if_pos x]
        have nn := R.n0 hm z.1 z.2
        have b := hm.nw z.1 z.2
        have hb := hm.nh y.1 y.2
        have ne := hm.2.2.2.1 i y.1 y.2
        rw [R.nh hm y.1 y.2, R.1.2.2.2 i y.1 y.2, nn.2.1, nn.2.2.2]
        by_cases w : m 244 (24 + i) + n < m 243 i
        · rw [if_pos w, if_pos w]
          refine St_deed S _ (fun a b ha => (zup_ne (by omega))) (fun a b ha => (zup_ne (fun w => ha w.1))) ?_
          exact NX_up hm (NX_0 S) (by unfold cor; omega) ⟨by omega, by omega, by omega, by omega⟩
        · rw [if_neg w, if_neg w]
          rw [show m 244 (4 * d + 1) + (if m 244 (4 * d + 1) < 99 then 1 else 0) = min 99 (m 244 (4 * d + 1) + 1) by split <;> omega, show m 244 (4 * d + 3) + (if m 244 (4 * d + 3) < 999 then 1 else 0) = min 999 (m 244 (4 * d + 3) + 1) by split <;> omega]
          rw [zup_zup, zup_comm (r := 29) (k := i) (r' := 26) (by omega), zup_comm (r := 29) (k := i) (r' := 28) (by omega), zup_zup]
          rw [zup_comm (r := 244) (k := 24 + i) (k' := 4 * d + 1) (by omega), zup_comm (r := 244) (k := 24 + i) (k' := 4 * d + 3) (by omega)]
          refine St_deed S 0 (fun a b ha => (zup_ne (by omega)).trans ((zup_ne (by omega)).trans (zup_ne (by omega)))) (fun a b ha => (zup_ne (fun w => ha w.1)).trans ((zup_ne (fun w => ha w.1)).trans (zup_ne (fun w => ha w.1)))) ?_
          exact NX_up hm (NX_up hm (NX_up hm (NX_0 S) (by unfold cor; omega) ⟨by omega, fun _ => ⟨by omega, by omega, by omega, by omega⟩, by omega, by omega⟩) (by unfold cor; omega) ⟨by omega, fun _ => ⟨by omega, by omega, by omega, by omega⟩, by omega, by omega⟩) (by unfold cor; omega) ⟨by omega, by omega, by omega, by omega⟩
      · rw [if_neg x, if_neg x]
        exact St_same S _
    · rw [if_neg y, if_neg (by omega)]
      exact St_same S _
  · rw [if_neg z, if_neg z]
    exact St_same S _
theorem St_shi {g c m : zH} {t : Int} (S : SI g c m t) (a b : Int) : St t g c m (shiC g c t a b) (shiR m a b) := by
  obtain ⟨R, hm, hg, H, ht, tr⟩ := id S
  have m2 := hm.1.2.2.1
  unfold shiC shiR
  rw [R.1.1.2.2.1]
  by_cases z : 0 ≤ a ∧ a < m 240 3
  · rw [if_pos z, if_pos z]
    by_cases y : 0 ≤ b ∧ b < m 240 3
    · rw [if_pos y, if_pos y]
      by_cases x : a = b
      · rw [if_pos x, if_pos x]
        exact St_same S _
      · rw [if_neg x, if_neg x]
        have na := R.n0 hm z.1 z.2
        have nb := R.n0 hm y.1 y.2
        have ba := hm.nw z.1 z.2
        have bb := hm.nw y.1 y.2
        rw [na.1, na.2.1, nb.1, nb.2.1]
        by_cases w : m 244 (4 * a) = m 244 (4 * b) ∧ 1 ≤ m 244 (4 * a + 1) ∧ m 244 (4 * b + 1) < 99
        · rw [if_pos w, if_pos (by omega)]
          refine St_deed S _ (fun a b ha => (zup_ne (by omega)).trans (zup_ne (by omega))) (fun a b ha => (zup_ne (fun w => ha w.1)).trans (zup_ne (fun w => ha w.1))) ?_
          exact NX_up hm (NX_up hm (NX_0 S) (by unfold cor; omega) ⟨by omega, fun _ => ⟨by omega, by omega, by omega, by omega⟩, by omega, by omega⟩) (by unfold cor; omega) ⟨by omega, fun _ => ⟨by omega, by omega, by omega, by omega⟩, by omega, by omega⟩
        · rw [if_neg w, if_neg (by omega)]
          exact St_same S _
    · rw [if_neg y, if_neg y]
      exact St_same S _
  · rw [if_neg z, if_neg z]
    exact St_same S _
theorem zup_self (h : zH) (r k : Int) : zup h r k (h r k) = h := by
  funext a b
  by_cases z : a = r ∧ b = k
  · rw [z.1, z.2, zup_same]
  · rw [zup_ne z]
theorem NX_sz {m0 c m : zH} (hm : MB m0) (h : NX m0 c m) (s : Int) : ∀ n : Nat, (n : Int) ≤ m0 240 3 → NX m0 (szC c s n) (stz m s n) := by
  have m2 := hm.1.2.2.1
  intro n
  induction n with
  | zero => intro _; rw [szC_0]; exact h
  | succ n ih =>
    intro hn
    have q := ih (by omega)
    have e : stz m s (n + 1) = zup (stz m s n) 244 (4 * (n : Int) + 1) (if hasb s n then 0 else stz m s n 244 (4 * (n : Int) + 1)) := rfl
    rw [e]
    by_cases z : hasb s n
    · rw [if_pos z, ← szC_t z]
      clear z e
      exact NX_up hm q (by unfold cor; omega) ⟨by omega, fun _ => ⟨by omega, by omega, by omega, by omega⟩, by omega, by omega⟩
    · rw [if_neg z, ← szC_f z, zup_self]
      exact q
theorem St_calls {g c m : zH} {t : Int} (S : SI g c m t) (r : Int) : St t g c m (callsC g c t r) (callsR m r) := by
  obtain ⟨R, hm, hg, H, ht, tr⟩ := id S
  have m2 := hm.1.2.2.1
  unfold callsC callsR
  rw [R.1.1.1]
  by_cases z : 0 ≤ r ∧ r < m 240 0
  · rw [if_pos z, if_pos z, eq_in R hm, R.nl, eq_spr R hm, R.1.1.2.2.1]
    by_cases y : band (thereS m r) (bxor (m 244 28) (-1)) = 0
    · rw [if_pos y, if_pos y]
      exact St_same S _
    · rw [if_neg y, if_neg y]
      clear y
      have ir := inC_r (h := c) (t := t) (by rw [R.1.1.2.2.1]; exact m2) r
      rw [eq_in R hm, R.1.1.2.2.1] at ir
      have nl := hm.nl
      have p6 := pw_le (n := m 240 3) (by omega)
      have br := bor_r (m 244 28) (thereS m r) (m 240 3) nl.1 (by omega) ir.1 (by omega) m2.1 (by omega)
      have sg := sprM_ge hm (s := bor (m 244 28) (thereS m r)) (by omega) (br.2.2 nl.2 ir.2)
      generalize hL : sprM m (bor (m 244 28) (thereS m r)) = L at *
      refine St_deed S _ (fun a b ha => (szC_ne (by omega)).trans (zup_ne (by omega))) (fun a b ha => (stz_ne (Or.inl ha) _).trans (zup_ne (fun w => ha w.1))) ?_
      refine NX_sz hm (NX_up hm (NX_0 S) (by unfold cor; omega) ⟨by omega, by omega, by omega, fun _ => sg.2⟩) L _ (by omega)
  · rw [if_neg z, if_neg z]
    exact St_same S _
