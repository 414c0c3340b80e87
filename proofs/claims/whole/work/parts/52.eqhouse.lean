/-! A house is told: class and reference do alike. -/
theorem sc_congr {f : Int → Bool} {X X' : Int → Int} {L : Int} (e : ∀ i, 0 ≤ i → i < L → X i = X' i) : ∀ (n : Nat) (a : Int), n = (L - a).toNat → 0 ≤ a → sc f X L a = sc f X' L a := by
  intro n
  induction n with
  | zero => intro a hn a0; rw [sc_L (by omega), sc_L (by omega)]
  | succ n ih =>
    intro a hn a0
    have q := e a a0 (by omega)
    by_cases z : f (X a) = true
    · rw [sc_t (X := X) (by omega) z, sc_t (X := X') (by omega) (by rw [← q]; exact z), ih (a + 1) (by omega) (by omega)]
    · rw [sc_n (X := X) (by omega) z, sc_n (X := X') (by omega) (by rw [← q]; exact z)]
theorem sc_cg {f : Int → Bool} {X X' : Int → Int} {L a : Int} (e : ∀ i, 0 ≤ i → i < L → X i = X' i) (a0 : 0 ≤ a) : sc f X L a = sc f X' L a := sc_congr e _ a rfl a0
theorem tke_cg {X X' : Int → Int} {L p : Int} (e : ∀ i, 0 ≤ i → i < L → X i = X' i) (p0 : 0 ≤ p) : tke X L p = tke X' L p := by
  unfold tke
  by_cases z : L ≤ p
  · rw [if_pos z, if_pos z]
  · rw [if_neg z, if_neg z, e p p0 (by omega), sc_cg e (show 0 ≤ p + 1 by omega), sc_cg e (show 0 ≤ p + 1 by omega)]
theorem tkc_cg {X X' : Int → Int} {L p : Int} (e : ∀ i, 0 ≤ i → i < L → X i = X' i) (p0 : 0 ≤ p) : tkc X L p = tkc X' L p := by
  unfold tkc
  by_cases z : L ≤ p
  · rw [if_pos z, if_pos z]
  · rw [if_neg z, if_neg z, e p p0 (by omega), sc_cg e (show 0 ≤ p + 1 by omega), sc_cg e (show 0 ≤ p + 1 by omega)]
    by_cases y : p + 1 < L
    · rw [e (p + 1) (by omega) y]
    · have w : sc isD X' L (p + 1) = p + 1 := sc_L (by omega)
      rw [if_pos w, if_pos w]
theorem ks_cg {X X' : Int → Int} {L a : Int} (e : ∀ i, 0 ≤ i → i < L → X i = X' i) (a0 : 0 ≤ a) : ks X L a = ks X' L a := sc_cg e a0
theorem ke_cg {X X' : Int → Int} {L a : Int} (e : ∀ i, 0 ≤ i → i < L → X i = X' i) (a0 : 0 ≤ a) (a1 : a ≤ L) : ke X L a = ke X' L a := by
  have q := ks_r (X := X') a1
  unfold ks at q
  unfold ke
  rw [sc_cg e a0, tke_cg e (by omega)]
theorem kc_cg {X X' : Int → Int} {L a : Int} (e : ∀ i, 0 ≤ i → i < L → X i = X' i) (a0 : 0 ≤ a) (a1 : a ≤ L) : kc X L a = kc X' L a := by
  have q := ks_r (X := X') a1
  unfold ks at q
  unfold kc
  rw [sc_cg e a0, tkc_cg e (by omega)]
theorem itm_cg {X X' : Int → Int} {L a p i c : Int} {F : zH} (e : ∀ i, 0 ≤ i → i < L → X i = X' i) (a0 : 0 ≤ a) (a1 : a ≤ L) : itm F X L a p i c = itm F X' L a p i c := by
  have k1 := kc_cg e a0 a1
  have s1 := ks_cg e a0
  have e1 := ke_cg e a0 a1
  have r1 := ke_r (X := X') a1
  have q1 := ks_r (X := X') a1
  have b0 : 0 ≤ ke X' L a := by omega
  have k2 := kc_cg e b0 r1.2
  have s2 := ks_cg e b0
  have e2 := ke_cg e b0 r1.2
  have r2 := ke_r (X := X') r1.2
  have q2 := ks_r (X := X') r1.2
  have c0 : 0 ≤ ke X' L (ke X' L a) := by omega
  have k3 := kc_cg e c0 r2.2
  have s3 := ks_cg e c0
  have e3 := ke_cg e c0 r2.2
  have r3 := ke_r (X := X') r2.2
  have q3 := ks_r (X := X') r2.2
  have d0 : 0 ≤ ke X' L (ke X' L (ke X' L a)) := by omega
  have k4 := kc_cg e d0 r3.2
  have s4 := ks_cg e d0
  have e4 := ke_cg e d0 r3.2
  have r4 := ke_r (X := X') r3.2
  have q4 := ks_r (X := X') r3.2
  have f0 : 0 ≤ ke X' L (ke X' L (ke X' L (ke X' L a))) := by omega
  have k5 := kc_cg e f0 r4.2
  have s5 := ks_cg e f0
  have e5 := ke_cg e f0 r4.2
  unfold itm itC itD itF itP itR
  simp only [k1, s1, e1, k2, s2, e2, k3, s3, e3, k4, s4, e4, k5, s5, e5]
theorem prs_cg {X X' : Int → Int} {L : Int} (e : ∀ i, 0 ≤ i → i < L → X i = X' i) : ∀ (n : Nat) (F : zH) (i a : Int), FO F → 0 ≤ i → 0 ≤ a → a ≤ L → (i = 0 → F 0 1 = 0 ∧ F 0 2 = 0) → prs X L n F i a = prs X' L n F i a := by
  intro n
  induction n with
  | zero => intro F i a hF i0 a0 a1 hi; rfl
  | succ n ih =>
    intro F i a hF i0 a0 a1 hi
    have u1 := ks_r (X := X') a1
    have w1 := ke_r (X := X') a1
    have io := IO_m (X := X') (c := kc X' L a) hF (show 0 ≤ ke X' L a by omega) w1.2 (show 0 ≤ ks X' L a by omega) w1.1 i0 hi
    have e0 : ∀ Y : Int → Int, prs Y L (n + 1) F i a = if kc Y L a = -1 then (-9, F, i) else if (itm F Y L (ke Y L a) (ks Y L a) i (kc Y L a)).1 = -9 then prs Y L n (itm F Y L (ke Y L a) (ks Y L a) i (kc Y L a)).2.1 (i + 1) (itm F Y L (ke Y L a) (ks Y L a) i (kc Y L a)).2.2 else ((itm F Y L (ke Y L a) (ks Y L a) i (kc Y L a)).1, F, i) := fun _ => rfl
    rw [e0, e0, kc_cg e a0 a1, ks_cg e a0, ke_cg e a0 a1, itm_cg e (show 0 ≤ ke X' L a by omega) w1.2]
    by_cases z : kc X' L a = -1
    · rw [if_pos z, if_pos z]
    · rw [if_neg z, if_neg z]
      by_cases y : (itm F X' L (ke X' L a) (ks X' L a) i (kc X' L a)).1 = -9
      · rw [if_pos y, if_pos y]
        have q := io.1 y
        exact ih _ (i + 1) _ q.1 (by omega) (by omega) q.2.2 (by omega)
      · rw [if_neg y, if_neg y]
theorem tn_c (F : zH) : tn F 0 0 = 4 ∧ tn F 0 1 = 0 ∧ tn F 0 2 = 0 ∧ tn F 0 3 = 0 := by
  unfold tn
  refine ⟨?_, ?_, ?_, ?_⟩
  · rw [zup_ne (by omega), zup_ne (by omega), zup_ne (by omega), zup_same]
  · rw [zup_ne (by omega), zup_ne (by omega), zup_same]
  · rw [zup_ne (by omega), zup_same]
  · rw [zup_same]
/-- a fault leaves all as it was -/
theorem hs_fail {g c m : zH} {t s : Int} (S : SI g c m t) (hs : s = 4 ∨ s = 14) (ne : s ≠ t) {F G : zH} {a p k v f a' f' c' q' : Int} : Rel g (PH c s F a p k v f) (MH m G a' f' c' q') t ∧ MB (MH m G a' f' c' q') := by
  obtain ⟨R, hm, hg, H, ht, tr⟩ := S
  have em : ∀ x y, usM x y → MH m G a' f' c' q' x y = m x y := fun x y h => by unfold usM at h; exact MH_ne (by omega) (by omega)
  exact ⟨Rel_m em (Rel_c H hm.1.2.2.2.2.1 hm.hi (fun x y h => by unfold usC at h; exact PH_ne (by omega) (by omega)) R), MB_m em hm⟩
theorem bg_ne {x : zH} {s a b : Int} (ha : a < 24 ∨ 29 < a) : bgH x s a b = x a b := by
  unfold bgH bgX
  rw [zup_ne (by omega), har_ne (by omega), har_ne (by omega), har_ne (by omega), cpo_ne (by omega), cpo_ne (by omega)]
theorem bg_0 {x : zH} {s b : Int} (hs : s = 4 ∨ s = 14) (b0 : 0 ≤ b) (b1 : b < 6) : bgH x s 25 b = x (s + 7) b ∧ bgH x s 26 b = x (s + 5) b ∧ bgH x s 27 b = 0 ∧ bgH x s 28 b = 0 := by
  unfold bgH bgX
  refine ⟨?_, ?_, ?_, ?_⟩
  · rw [zup_ne (by omega), har_ne (by omega), har_ne (by omega), har_ne (by omega), cpo_ne (by omega), cpo_in (by omega) (by omega), show b - 0 + 0 = b by omega]
  · rw [zup_ne (by omega), har_ne (by omega), har_ne (by omega), har_ne (by omega), cpo_in (by omega) (by omega), cpo_ne (by omega), show b - 0 + 0 = b by omega]
  · rw [zup_ne (by omega), har_ne (by omega), har_ne (by omega), har_at b0 (by omega)]
  · rw [zup_ne (by omega), har_ne (by omega), har_at b0 (by omega)]
theorem bg_h {x : zH} {s b : Int} (b0 : 0 ≤ b) (b1 : b < 4) : bgH x s 29 b = 0 := by
  unfold bgH
  rw [zup_ne (by omega), har_at b0 (by omega)]
theorem bg_l {x : zH} {s : Int} : bgH x s 24 5 = 0 := by unfold bgH; exact zup_same _ _ _ _
/-- a new house stands, in both -/
theorem hs_ok {g c m : zH} {t s : Int} (S : SI g c m t) (hs : s = 4 ∨ s = 14) (ne : s ≠ t) {F G : zH} {a p kd v f a' f' c' q' : Int} (hF : FO F) (rm : RM F G) {g' : zH} : Rel g' (hsC (PH c s F a p kd v f) s) (tkR (MH m G a' f' c' q')) s ∧ MB (tkR (MH m G a' f' c' q')) := by
  obtain ⟨R, hm, hg, H, ht, tr⟩ := S
  obtain ⟨⟨f0, f1, f2, f3⟩, fp, fd, fc⟩ := id hF
  obtain ⟨r1, r2, r3, r4, rp, rd, rc⟩ := rm
  obtain ⟨C, hC⟩ : ∃ C, C = hsC (PH c s F a p kd v f) s := ⟨_, rfl⟩
  obtain ⟨N, hN⟩ : ∃ N, N = MH m G a' f' c' q' := ⟨_, rfl⟩
  obtain ⟨M, hM⟩ : ∃ M, M = tkR N := ⟨_, rfl⟩
  rw [← hC, ← hN, ← hM]
  have n1 : ∀ y, 21 ≤ y → y ≤ 28 → N 240 y = G 240 y := fun y y0 y1 => by rw [hN]; exact MH_g y0 y1
  have n2 : ∀ x y, 250 ≤ x → x ≤ 254 → N x y = G x y := fun x y y0 y1 => by rw [hN]; exact MH_a y0 y1
  have tc := tkR_c N
  rw [← hM, n1 21 (by omega) (by omega), n1 22 (by omega) (by omega), n1 24 (by omega) (by omega), n1 28 (by omega) (by omega), r1, r2, r3, r4] at tc
  obtain ⟨M0, M1, M3, M5, M9, M13, M16, M70, M71⟩ := tc
  have M14 : M 240 14 = m 240 14 := by rw [hM, tkR_ne (by omega) (by omega), hN]; exact MH_ne (by omega) (by omega)
  have mP : ∀ b, 0 ≤ b → b < 27 → M 241 b = G 250 b := fun b b0 b1 => by rw [hM, tkR_1 b0 b1, n2 250 b (by omega) (by omega)]
  have mD : ∀ b, 0 ≤ b → b < 18 → M 242 b = G 251 b := fun b b0 b1 => by rw [hM, tkR_2 b0 b1, n2 251 b (by omega) (by omega)]
  have mC : ∀ b, 0 ≤ b → b < 4 → M 243 b = G 254 b := fun b b0 b1 => by rw [hM, tkR_3 b0 b1, n2 254 b (by omega) (by omega)]
  have mN : ∀ k, 0 ≤ k → k ≤ 28 → M 244 k = if k < 4 * F 0 2 ∧ k % 4 = 0 then F 7 (k / 4) else if k < 4 * F 0 2 ∧ k % 4 = 1 then F 5 (k / 4) else 0 := fun k k0 k1 => by
    rw [hM, tkR_4 (by rw [n1 24 (by omega) (by omega), r3]; exact f2.1) k0 k1, n1 24 (by omega) (by omega), r3, n2 252 _ (by omega) (by omega), n2 253 _ (by omega) (by omega)]
    by_cases z : k < 4 * F 0 2 ∧ k % 4 = 0
    · rw [if_pos z, if_pos z]; exact (rd (k / 4) (by omega) (by omega)).2.2.2.1
    · rw [if_neg z, if_neg z]
      by_cases y : k < 4 * F 0 2 ∧ k % 4 = 1
      · rw [if_pos y, if_pos y]; exact (rd (k / 4) (by omega) (by omega)).2.2.2.2
      · rw [if_neg y, if_neg y]
  have cF : ∀ i b, 0 ≤ i → i ≤ 9 → C (s + i) b = F i b := fun i b i0 i1 => by
    rw [hC]
    unfold hsC
    rw [zup_ne (by omega), zup_ne (by omega), zup_ne (by omega), zup_ne (by omega), bg_ne (by omega), zup_ne (by omega)]
    exact PH_F hs i0 i1
  have c0 : ∀ b, C s b = F 0 b := fun b => by have q := cF 0 b (by omega) (by omega); rw [Int.add_zero] at q; exact q
  have cb : ∀ x y, 24 ≤ x → x ≤ 29 → C x y = bgH (zup (PH c s F a p kd v f) 2 1 0) s x y := fun x y x0 x1 => by
    rw [hC]
    unfold hsC
    rw [zup_ne (by omega), zup_ne (by omega), zup_ne (by omega), zup_ne (by omega)]
  have pF : ∀ i b, 0 ≤ i → i ≤ 9 → zup (PH c s F a p kd v f) 2 1 0 (s + i) b = F i b := fun i b i0 i1 => by rw [zup_ne (by omega)]; exact PH_F hs i0 i1
  refine ⟨⟨⟨⟨by rw [c0, M0], by rw [c0, M1], by rw [c0, M3], by rw [c0, M5]⟩, fun q q0 q1 => ?_, fun q q0 q1 => ?_, fun q q0 q1 => ?_⟩, fun k hk => ?_, ⟨?_, fun i i0 i1 => by rw [M9] at i1; omega⟩, fun j j0 j1 => ?_, ⟨?_, fun i i0 i1 => by rw [M13] at i1; omega⟩, ?_, ?_, fun i i0 i1 => by rw [M16] at i1; omega⟩, ?_⟩
  · rw [M1] at q1
    have w := rp q q0 q1
    rw [cF 1 q (by omega) (by omega), cF 2 q (by omega) (by omega), cF 3 q (by omega) (by omega), mP _ (by omega) (by omega), mP _ (by omega) (by omega), mP _ (by omega) (by omega)]
    exact ⟨w.1.symm, w.2.1.symm, w.2.2.symm⟩
  · rw [M3] at q1
    have w := rd q q0 q1
    rw [cF 4 q (by omega) (by omega), cF 6 q (by omega) (by omega), cF 8 q (by omega) (by omega), mD _ (by omega) (by omega), mD _ (by omega) (by omega), mD _ (by omega) (by omega)]
    exact ⟨w.1.symm, w.2.1.symm, w.2.2.1.symm⟩
  · rw [M5] at q1
    rw [cF 9 q (by omega) (by omega), mC _ (by omega) (by omega)]
    exact (rc q q0 q1).symm
  · unfold vk at hk
    rw [M3, M5] at hk
    rw [mN k (by omega) (by omega)]
    rcases hk with ⟨k0, k1⟩ | ⟨k0, k1⟩ | k0
    · have bg := bg_0 (x := zup (PH c s F a p kd v f) 2 1 0) (b := k / 4) hs (by omega) (by omega)
      rcases (show k % 4 = 0 ∨ k % 4 = 1 ∨ k % 4 = 2 ∨ k % 4 = 3 by omega) with z | z | z | z
      · have e := CV_0 (h := C) (n := 24) (d := k / 4) (by omega) (by omega)
        rw [show 4 * (k / 4) = k by omega] at e
        rw [if_pos ⟨k1, z⟩, e]
        show C 25 (k / 4) = _
        rw [cb 25 _ (by omega) (by omega), bg.1, pF 7 _ (by omega) (by omega)]
      · have e := CV_1 (h := C) (n := 24) (d := k / 4) (by omega) (by omega)
        rw [show 4 * (k / 4) + 1 = k by omega] at e
        rw [if_neg (by omega), if_pos ⟨k1, z⟩, e]
        show C 26 (k / 4) = _
        rw [cb 26 _ (by omega) (by omega), bg.2.1, pF 5 _ (by omega) (by omega)]
      · have e := CV_2 (h := C) (n := 24) (d := k / 4) (by omega) (by omega)
        rw [show 4 * (k / 4) + 2 = k by omega] at e
        rw [if_neg (by omega), if_neg (by omega), e]
        show C 27 (k / 4) = _
        rw [cb 27 _ (by omega) (by omega), bg.2.2.1]
      · have e := CV_3 (h := C) (n := 24) (d := k / 4) (by omega) (by omega)
        rw [show 4 * (k / 4) + 3 = k by omega] at e
        rw [if_neg (by omega), if_neg (by omega), e]
        show C 28 (k / 4) = _
        rw [cb 28 _ (by omega) (by omega), bg.2.2.2]
    · have e := CV_h (h := C) (n := 24) (c := k - 24) (by omega) (by omega)
      rw [show 24 + (k - 24) = k by omega] at e
      rw [if_neg (by omega), if_neg (by omega), e]
      show C 29 (k - 24) = _
      rw [cb 29 _ (by omega) (by omega), bg_h (by omega) (by omega)]
    · subst k0
      rw [if_neg (by omega), if_neg (by omega), CV_l, cb 24 _ (by omega) (by omega), bg_l]
  · rw [M9, hC]
    unfold hsC
    rw [zup_ne (by omega), zup_ne (by omega), zup_ne (by omega), zup_same]
  · have e : C (102 + 69 * j) 2 = 0 := by
      rw [hC]
      unfold hsC
      rcases (show j = 0 ∨ j = 1 by omega) with rfl | rfl
      · rw [zup_ne (by omega)]; exact zup_same _ _ _ _
      · exact zup_same _ _ _ _
    have e2 : M 247 j = 0 := by rcases (show j = 0 ∨ j = 1 by omega) with rfl | rfl; exact M70; exact M71
    exact ⟨by rw [e, e2], fun z => by omega⟩
  · rw [M13, hC]
    unfold hsC
    rw [zup_ne (by omega), zup_ne (by omega), zup_same]
  · rw [M14, ← R.2.2.2.2.2.1, hC]
    unfold hsC
    rw [zup_ne (by omega), zup_ne (by omega), zup_ne (by omega), zup_ne (by omega), bg_ne (by omega), zup_ne (by omega)]
    exact PH_ne (by omega) (by omega)
  · rw [M16, hC]
    unfold hsC
    rw [zup_ne (by omega), zup_ne (by omega), zup_ne (by omega), zup_ne (by omega), bg_ne (by omega), zup_same]
  · have m14 := hm.1.2.2.2.2.2.2.2
    refine ⟨⟨by rw [M0]; exact f0, by rw [M1]; exact f1, by rw [M3]; exact f2, by rw [M5]; exact f3, by omega, by omega, by omega, by rw [M14]; exact m14⟩, fun q q0 q1 => ?_, fun q q0 q1 => ?_, fun q q0 q1 => ?_, ?_, fun i i0 i1 => by omega, fun j j0 j1 => ?_, fun i i0 i1 => by omega, fun i i0 i1 => by omega⟩
    · rw [M1] at q1
      have w := rp q q0 q1
      rw [M0, mP _ (by omega) (by omega), mP _ (by omega) (by omega), mP _ (by omega) (by omega), w.1, w.2.1, w.2.2]
      exact fp q q0 q1
    · rw [M3] at q1
      have w := rd q q0 q1
      have w2 := fd q q0 q1
      rw [M3, mD _ (by omega) (by omega), mD _ (by omega) (by omega), mD _ (by omega) (by omega), w.1, w.2.1, w.2.2.1]
      exact ⟨w2.1, w2.2.2.1, w2.2.2.2.2⟩
    · rw [M5] at q1
      rw [mC _ (by omega) (by omega), rc q q0 q1]
      exact fc q q0 q1
    · have pp := pw_pos (F 0 2)
      refine NB_of (by rw [M3]; exact f2) (by rw [M5]; exact f3) (fun k hk => ?_)
      unfold vk at hk
      rw [M3, M5] at hk
      rw [M0, M3, Int.zero_add, mN k (by omega) (by omega)]
      by_cases z : k < 4 * F 0 2 ∧ k % 4 = 0
      · rw [if_pos z]
        have w := fd (k / 4) (by omega) (by omega)
        exact ⟨w.2.2.2.1.1, fun _ => ⟨fun _ => w.2.2.2.1.2, by omega, by omega, by omega⟩, by omega, by omega⟩
      · rw [if_neg z]
        by_cases y : k < 4 * F 0 2 ∧ k % 4 = 1
        · rw [if_pos y]
          have w := fd (k / 4) (by omega) (by omega)
          exact ⟨w.2.1.1, fun _ => ⟨by omega, by omega, by omega, by omega⟩, by omega, by omega⟩
        · rw [if_neg y]
          exact ⟨by omega, fun _ => ⟨by omega, by omega, by omega, by omega⟩, by omega, by omega⟩
    · have e2 : M 247 j = 0 := by rcases (show j = 0 ∨ j = 1 by omega) with rfl | rfl; exact M70; exact M71
      exact ⟨Or.inl e2, fun z => by omega⟩
