/-! Undoing, images, the text, what is heard, the kinds: class and reference do alike. -/
theorem St_undo {g c m : zH} {t : Int} (S : SI g c m t) : St t g c m (undoC g c) (undoR m) := by
  obtain ⟨R, hm, hg, H, ht, tr⟩ := id S
  have m4 := hm.1.2.2.2.2.1
  obtain ⟨e9, hh⟩ := R.2.2.1
  unfold undoC undoR
  rw [e9]
  by_cases z : m 240 9 = 0
  · rw [if_pos z, if_pos z]
    exact St_same S _
  · rw [if_neg z, if_neg z]
    have gr := H.rg (show 0 ≤ m 240 9 - 1 by omega) (show m 240 9 - 1 < 10 by omega)
    obtain ⟨c', hc'⟩ : ∃ c', c' = CPN (zup c 30 1 (m 240 9 - 1)) 24 (g 31 (m 240 9 - 1)) := ⟨_, rfl⟩
    obtain ⟨m', hm'⟩ : ∃ m', m' = cpo (zup m 240 9 (m 240 9 - 1)) 244 0 245 (29 * (m 240 9 - 1)) 29 := ⟨_, rfl⟩
    rw [← hc', ← hm']
    have ec : ∀ a b, (a < 24 ∨ 29 < a) → ¬ (a = 30 ∧ b = 1) → c' a b = c a b := fun a b h1 h2 => by rw [hc', CPN_ne (by omega), zup_ne h2]
    have em : ∀ a b, a ≠ 244 → ¬ (a = 240 ∧ b = 9) → m' a b = m a b := fun a b h1 h2 => by rw [hm', cpo_ne h1, zup_ne h2]
    have e9' : m' 240 9 = m 240 9 - 1 := by rw [hm', cpo_ne (by omega), zup_same]
    have e0 := em 240 0 (by omega) (by omega)
    have e3 := em 240 3 (by omega) (by omega)
    have e5 := em 240 5 (by omega) (by omega)
    have vk' : ∀ k, vk m' k → vk m k := fun k hk => by unfold vk at *; rw [e3, e5] at hk; exact hk
    have h4 : ∀ k, 0 ≤ k → k ≤ 28 → m' 244 k = m 245 (29 * (m 240 9 - 1) + k) := fun k k0 k1 => by rw [hm', cpo_in (by omega) (by omega), zup_ne (by omega), show k - 0 + 29 * (m 240 9 - 1) = 29 * (m 240 9 - 1) + k by omega]
    refine ⟨rfl, ?_, ?_, hg, H, rfl, fun a b ha => ec a b (by omega) (by omega), fun a b ha => em a b (by omega) (by omega), ?_⟩
    · show Rel g c' m' t
      refine Rel_of ht hm (fun a b _ ha => ec a b (by omega) (by omega)) (fun a b _ h1 h2 h3 => em a b h1 h3) R (fun k hk => ?_) ⟨?_, fun i i0 i1 k hk => ?_⟩
      · have r := vk_r hm (vk' k hk)
        rw [h4 k r.1 r.2, ← hh _ (by omega) (by omega) k (vk' k hk), hc', CV_CPN (by unfold sep; omega) r.1 r.2]
        exact CV_congr (fun a b a0 a1 => zup_ne (by omega)) k
      · rw [e9', hc', CPN_ne (by omega), zup_same]
      · have gi := H.rg i0 (show i < 10 by omega)
        rw [em 245 _ (by omega) (by omega), ← hh i i0 (by omega) k (vk' k hk)]
        exact CV_congr (fun a b a0 a1 => ec a b (by omega) (by omega)) k
    · show MB m'
      refine MB_of (fun a b _ h1 h2 h3 => em a b h1 h3) hm ?_ (by omega) (fun i i0 i1 => ?_)
      · refine NB_eq (m := m) (A := 245) (o := 29 * (m 240 9 - 1)) hm.1.2.2.1 hm.1.2.2.2.1 e0 e3 e5 (fun k hk => ?_) (hm.2.2.2.2.2.1 _ (by omega) (by omega))
        have r := vk_r hm hk
        rw [Int.zero_add]
        exact h4 k r.1 r.2
      · exact NB_eq (m := m) (A := 245) (o := 29 * i) hm.1.2.2.1 hm.1.2.2.2.1 e0 e3 e5 (fun k hk => em 245 _ (by omega) (by omega)) (hm.2.2.2.2.2.1 i i0 (by omega))
    · show m' 240 14 ≤ m 240 14 + 200000
      rw [em 240 14 (by omega) (by omega)]
      omega
theorem hcp_at {g h : zH} {d s k : Int} (k0 : 0 ≤ k) (k1 : k ≤ 28) : ∀ n : Nat, (∀ i j : Int, 0 ≤ i → i < n → 0 ≤ j → j < n → (i ≠ j → sep (g (d + 1) i) (g (d + 1) j)) ∧ sep (g (d + 1) i) (g (s + 1) j)) → ∀ i : Int, 0 ≤ i → i < n → CV (hcp g h d s n) (g (d + 1) i) k = CV h (g (s + 1) i) k := by
  intro n
  induction n with
  | zero => intro _ i i0 i1; omega
  | succ n ih =>
    intro e i i0 i1
    show CV (CPN (hcp g h d s n) (g (d + 1) n) (g (s + 1) n)) (g (d + 1) i) k = _
    by_cases z : i = n
    · subst z
      rw [CV_CPN (e n n (by omega) (by omega) (by omega) (by omega)).2 k0 k1]
      refine CV_congr (fun a b a0 a1 => hcp_ne n (fun j j0 j1 => ?_)) k
      have q := (e j n j0 (by omega) (by omega) (by omega)).2
      unfold sep at q
      omega
    · rw [← ih (fun i j i0 i1 j0 j1 => e i j i0 (by omega) j0 (by omega)) i i0 (by omega)]
      refine CV_congr (fun a b a0 a1 => CPN_ne ?_) k
      have q := (e i n i0 (by omega) (by omega) (by omega)).1 z
      unfold sep at q
      omega
theorem CV_zup {h : zH} {n r b v k : Int} (hr : r < n ∨ n + 5 < r) : CV (zup h r b v) n k = CV h n k := CV_congr (fun a b a0 a1 => zup_ne (by omega)) k
/-- an image is kept -/
theorem tk_kept (g h : zH) (I : Int) : takeH g h I I 2 = 1 := zup_same _ _ _ _
theorem tk_now {g h : zH} (hg : zGd g) {I k : Int} (hI : I = 102 ∨ I = 171) (k1' : h 30 1 ≤ 10) (k0 : 0 ≤ k) (k1 : k ≤ 28) : CV (takeH g h I) (I + 1) k = CV h 24 k := by
  have e : I + 7 + 1 = 110 ∨ I + 7 + 1 = 179 := by omega
  unfold takeH
  rw [CV_zup (by omega), CV_congr (h := zup (CPN h (I + 1) 24) (I + 7) 1 (h 30 1)) (fun a b a0 a1 => hcp_ne _ (fun i i0 i1 => by rw [img_g hg e i0 (by omega)]; omega)) k, CV_zup (by omega), CV_CPN (by unfold sep; omega) k0 k1]
theorem tk_known {g h : zH} (hg : zGd g) {I : Int} (hI : I = 102 ∨ I = 171) (k1' : h 30 1 ≤ 10) : takeH g h I (I + 7) 1 = h 30 1 := by
  have e : I + 7 + 1 = 110 ∨ I + 7 + 1 = 179 := by omega
  unfold takeH
  rw [zup_ne (by omega), hcp_ne _ (fun i i0 i1 => by rw [img_g hg e i0 (by omega)]; omega), zup_same]
theorem tk_past {g h : zH} (hg : zGd g) (H : HG g) {I i k : Int} (hI : I = 102 ∨ I = 171) (k0' : 0 ≤ h 30 1) (k1' : h 30 1 ≤ 10) (i0 : 0 ≤ i) (i1 : i < h 30 1) (k0 : 0 ≤ k) (k1 : k ≤ 28) : CV (takeH g h I) (I + 9 + 6 * i) k = CV h (g 31 i) k := by
  have e : I + 7 + 1 = 110 ∨ I + 7 + 1 = 179 := by omega
  have gi := img_g hg e i0 (by omega)
  have gr := H.rg i0 (show i < 10 by omega)
  have q := hcp_at (g := g) (h := zup (CPN h (I + 1) 24) (I + 7) 1 (h 30 1)) (d := I + 7) (s := 30) k0 k1 (h 30 1).toNat (fun i j i0 i1 j0 j1 => by
    have a := img_g hg e i0 (show i < 10 by omega)
    have b := img_g hg e j0 (show j < 10 by omega)
    have c := H.rg j0 (show j < 10 by omega)
    have c' : g (30 + 1) j = g 31 j := rfl
    unfold sep
    exact ⟨fun ne => by omega, by omega⟩) i i0 (by omega)
  rw [gi] at q
  unfold takeH
  rw [CV_zup (by omega), show I + 9 + 6 * i = I + 7 + 1 + 1 + 6 * i by omega, q]
  show CV _ (g 31 i) k = _
  rw [CV_zup (by omega)]
  exact CV_congr (fun a b a0 a1 => CPN_ne (by omega)) k
theorem tk_ne {g h : zH} (hg : zGd g) {I a b : Int} (hI : I = 102 ∨ I = 171) (k1 : h 30 1 ≤ 10) (ha : a < I ∨ I + 68 < a) : takeH g h I a b = h a b := by
  have e : I + 7 + 1 = 110 ∨ I + 7 + 1 = 179 := by omega
  unfold takeH
  rw [zup_ne (by omega), hcp_ne _ (fun i i0 i1 => by rw [img_g hg e i0 (by omega)]; omega), zup_ne (by omega), CPN_ne (by omega)]
theorem St_keep {g c m : zH} {t : Int} (S : SI g c m t) (j : Int) : St t g c m ((keepC g c t j).1, g, (keepC g c t j).2) (keepR m j) := by
  obtain ⟨R, hm, hg, H, ht, tr⟩ := id S
  have m4 := hm.1.2.2.2.2.1
  unfold keepC keepR
  by_cases z : 0 ≤ j ∧ j ≤ 1
  · rw [if_pos z, if_pos z, eq_st R hm]
    have hI : (102 : Int) + 69 * j = 102 ∨ (102 : Int) + 69 * j = 171 := by omega
    have k1 : c 30 1 ≤ 10 := by rw [R.2.2.1.1]; exact m4.2
    have k0 : 0 ≤ c 30 1 := by rw [R.2.2.1.1]; exact m4.1
    obtain ⟨c', hc'⟩ : ∃ c', c' = takeH g c (102 + 69 * j) := ⟨_, rfl⟩
    obtain ⟨m', hm'⟩ : ∃ m', m' = zup (zup (cpo (cpo m 246 (320 * j) 244 0 29) 246 (320 * j + 29) 245 0 290) 246 (320 * j + 319) (m 240 9)) 247 j 1 := ⟨_, rfl⟩
    rw [← hc', ← hm']
    have ec : ∀ a b, (a < 102 + 69 * j ∨ 102 + 69 * j + 68 < a) → c' a b = c a b := fun a b h1 => by rw [hc']; exact tk_ne hg hI k1 h1
    have em : ∀ a b, a ≠ 246 → a ≠ 247 → m' a b = m a b := fun a b h1 h2 => by rw [hm', zup_ne (by omega), zup_ne (by omega), cpo_ne h1, cpo_ne h1]
    have em7 : ∀ b, b ≠ j → m' 247 b = m 247 b := fun b h => by rw [hm', zup_ne (by omega), zup_ne (by omega), cpo_ne (by omega), cpo_ne (by omega)]
    have em6 : ∀ b, (b < 320 * j ∨ 320 * j + 320 ≤ b) → m' 246 b = m 246 b := fun b h => by rw [hm', zup_ne (by omega), zup_ne (by omega), cpo_out (by omega), cpo_out (by omega)]
    have s7 : m' 247 j = 1 := by rw [hm', zup_same]
    have s9 : m' 246 (320 * j + 319) = m 240 9 := by rw [hm', zup_ne (by omega), zup_same]
    have s4 : ∀ k, 0 ≤ k → k ≤ 28 → m' 246 (320 * j + k) = m 244 k := fun k k0 k1 => by rw [hm', zup_ne (by omega), zup_ne (by omega), cpo_out (by omega), cpo_in (by omega) (by omega), show 320 * j + k - 320 * j + 0 = k by omega]
    have s5 : ∀ i k, 0 ≤ i → i < 10 → 0 ≤ k → k ≤ 28 → m' 246 (320 * j + 29 + 29 * i + k) = m 245 (29 * i + k) := fun i k i0 i1 k0 k1 => by rw [hm', zup_ne (by omega), zup_ne (by omega), cpo_in (by omega) (by omega), cpo_ne (by omega), show 320 * j + 29 + 29 * i + k - (320 * j + 29) + 0 = 29 * i + k by omega]
    have e0 := em 240 0 (by omega) (by omega)
    have e1 := em 240 1 (by omega) (by omega)
    have e3 := em 240 3 (by omega) (by omega)
    have e5 := em 240 5 (by omega) (by omega)
    have e9 := em 240 9 (by omega) (by omega)
    have vk' : ∀ k, vk m' k → vk m k := fun k hk => by unfold vk at *; rw [e3, e5] at hk; exact hk
    have hi := hm.hi
    refine ⟨rfl, ?_, ?_, hg, H, rfl, fun a b ha => ec a b (by omega), fun a b ha => em a b (by omega) (by omega), ?_⟩
    · show Rel g c' m' t
      obtain ⟨r1, r2, r3, r4, r5, r6⟩ := R
      refine ⟨?_, ?_, ?_, ?_, ?_, ?_⟩
      · obtain ⟨⟨t0, t1, t2, t3⟩, rp, rd, rc⟩ := r1
        have et := fun b => ec t b (by omega)
        refine ⟨⟨by rw [et, e0]; exact t0, by rw [et, e1]; exact t1, by rw [et, e3]; exact t2, by rw [et, e5]; exact t3⟩, fun p p0 p1 => ?_, fun p p0 p1 => ?_, fun p p0 p1 => ?_⟩
        · rw [ec (t + 1) p (by omega), ec (t + 2) p (by omega), ec (t + 3) p (by omega), em 241 _ (by omega) (by omega), em 241 _ (by omega) (by omega), em 241 _ (by omega) (by omega)]
          exact rp p p0 (by omega)
        · rw [ec (t + 4) p (by omega), ec (t + 6) p (by omega), ec (t + 8) p (by omega), em 242 _ (by omega) (by omega), em 242 _ (by omega) (by omega), em 242 _ (by omega) (by omega)]
          exact rd p p0 (by omega)
        · rw [ec (t + 9) p (by omega), em 243 _ (by omega) (by omega)]
          exact rc p p0 (by omega)
      · intro k hk
        rw [em 244 _ (by omega) (by omega), ← r2 k (vk' k hk)]
        exact CV_congr (fun a b a0 a1 => ec a b (by omega)) k
      · refine ⟨by rw [ec 30 1 (by omega), e9]; exact r3.1, fun i i0 i1 k hk => ?_⟩
        have gi := H.rg i0 (show i < 10 by omega)
        rw [em 245 _ (by omega) (by omega), ← r3.2 i i0 (by omega) k (vk' k hk)]
        exact CV_congr (fun a b a0 a1 => ec a b (by omega)) k
      · intro j' j0 j1
        by_cases y : j' = j
        · subst y
          rw [s7, hc']
          refine ⟨tk_kept _ _ _, fun _ => ⟨fun k hk => ?_, ?_, fun i i0 i1 k hk => ?_⟩⟩
          · have r := vk_r hm (vk' k hk)
            rw [s4 k r.1 r.2, ← r2 k (vk' k hk), show (103 : Int) + 69 * j' = 102 + 69 * j' + 1 by omega]
            exact tk_now hg hI k1 r.1 r.2
          · rw [s9, ← r3.1, show (109 : Int) + 69 * j' = 102 + 69 * j' + 7 by omega]
            exact tk_known hg hI k1
          · have r := vk_r hm (vk' k hk)
            rw [s9] at i1
            rw [s5 i k i0 (by omega) r.1 r.2, ← r3.2 i i0 i1 k (vk' k hk), show (111 : Int) + 69 * j' + 6 * i = 102 + 69 * j' + 9 + 6 * i by omega]
            exact tk_past hg H hI k0 k1 i0 (by rw [r3.1]; exact i1) r.1 r.2
        · rw [em7 j' y, ec (102 + 69 * j') 2 (by omega)]
          obtain ⟨q1, q2⟩ := r4 j' j0 j1
          refine ⟨q1, fun w => ?_⟩
          obtain ⟨x1, x2, x3⟩ := q2 w
          have q9 := hi j' j0 j1 w
          refine ⟨fun k hk => ?_, ?_, fun i i0 i1 k hk => ?_⟩
          · have r := vk_r hm (vk' k hk)
            rw [em6 _ (by omega), ← x1 k (vk' k hk)]
            exact CV_congr (fun a b a0 a1 => ec a b (by omega)) k
          · rw [em6 _ (by omega), ec _ _ (by omega)]; exact x2
          · have r := vk_r hm (vk' k hk)
            rw [em6 _ (by omega)] at i1
            rw [em6 _ (by omega), ← x3 i i0 i1 k (vk' k hk)]
            exact CV_congr (fun a b a0 a1 => ec a b (by omega)) k
      · refine ⟨by rw [ec 93 2 (by omega), em 240 13 (by omega) (by omega)]; exact r5.1, fun i i0 i1 => ?_⟩
        rw [em 240 13 (by omega) (by omega)] at i1
        rw [ec 94 i (by omega), ec 95 i (by omega), em 248 _ (by omega) (by omega), em 248 _ (by omega) (by omega)]
        exact r5.2 i i0 i1
      · refine ⟨by rw [ec 1 9 (by omega), em 240 14 (by omega) (by omega)]; exact r6.1, by rw [ec 2 1 (by omega), em 240 16 (by omega) (by omega)]; exact r6.2.1, fun i i0 i1 => ?_⟩
        rw [em 240 16 (by omega) (by omega)] at i1
        rw [ec 3 i (by omega), em 249 _ (by omega) (by omega)]
        exact r6.2.2 i i0 i1
    · show MB m'
      have e13 := em 240 13 (by omega) (by omega)
      have e14 := em 240 14 (by omega) (by omega)
      have e16 := em 240 16 (by omega) (by omega)
      have f1 := fun b => em 241 b (by omega) (by omega)
      have f2 := fun b => em 242 b (by omega) (by omega)
      have f3 := fun b => em 243 b (by omega) (by omega)
      have f8 := fun b => em 248 b (by omega) (by omega)
      have f9 := fun b => em 249 b (by omega) (by omega)
      obtain ⟨⟨q0, q1, q2, q3, q4, q5, q6, q7⟩, mp, md, mn, nb, np, mi, mh, mt⟩ := id hm
      refine ⟨⟨by rw [e0]; exact q0, by rw [e1]; exact q1, by rw [e3]; exact q2, by rw [e5]; exact q3, by rw [e9]; exact q4, by rw [e13]; exact q5, by rw [e16]; exact q6, by rw [e14]; exact q7⟩, ?_, ?_, ?_, ?_, ?_, ?_, ?_, ?_⟩
      · unfold MBp at *; simp only [e0, e1, f1]; exact mp
      · unfold MBd at *; simp only [e3, f2]; exact md
      · unfold MBn at *; simp only [e5, f3]; exact mn
      · exact NB_eq q2 q3 e0 e3 e5 (fun k _ => em 244 _ (by omega) (by omega)) nb
      · intro i i0 i1
        exact NB_eq q2 q3 e0 e3 e5 (fun k _ => em 245 _ (by omega) (by omega)) (np i i0 (by omega))
      · intro j' j0 j1
        by_cases y : j' = j
        · subst y
          rw [s7, s9]
          refine ⟨Or.inr rfl, fun _ => ⟨?_, q4, fun i i0 i1 => ?_⟩⟩
          · exact NB_eq q2 q3 e0 e3 e5 (fun k hk => by have r := vk_r hm hk; rw [s4 k r.1 r.2, Int.zero_add]) nb
          · exact NB_eq q2 q3 e0 e3 e5 (fun k hk => by have r := vk_r hm hk; exact s5 i k i0 (by omega) r.1 r.2) (np i i0 i1)
        · rw [em7 j' y, em6 _ (by omega)]
          obtain ⟨w1, w2⟩ := mi j' j0 j1
          refine ⟨w1, fun w => ?_⟩
          obtain ⟨x1, x2, x3⟩ := w2 w
          refine ⟨?_, x2, fun i i0 i1 => ?_⟩
          · exact NB_eq q2 q3 e0 e3 e5 (fun k hk => by have r := vk_r hm hk; exact em6 _ (by omega)) x1
          · exact NB_eq q2 q3 e0 e3 e5 (fun k hk => by have r := vk_r hm hk; exact em6 _ (by omega)) (x3 i i0 i1)
      · unfold MBh at *; simp only [e1, e13, f8]; exact mh
      · unfold MBt at *; simp only [e16, f9]; exact mt
    · show m' 240 14 ≤ m 240 14 + 200000
      rw [em 240 14 (by omega) (by omega)]
      omega
  · rw [if_neg z, if_neg z]
    exact St_same S _
/-- an image is given back -/
theorem gv_now {g h : zH} (H : HG g) {I k : Int} (hI : I = 102 ∨ I = 171) (k1' : h (I + 7) 1 ≤ 10) (k0 : 0 ≤ k) (k1 : k ≤ 28) : CV (giveH g h I) 24 k = CV h (I + 1) k := by
  unfold giveH
  rw [CV_congr (h := zup (CPN h 24 (I + 1)) 30 1 (h (I + 7) 1)) (fun a b a0 a1 => hcp_ne _ (fun i i0 i1 => by have := H.rg i0 (show i < 10 by omega); show a < g 31 i ∨ g 31 i + 5 < a; omega)) k, CV_zup (by omega), CV_CPN (by unfold sep; omega) k0 k1]
theorem gv_known {g h : zH} (H : HG g) {I : Int} (k1' : h (I + 7) 1 ≤ 10) : giveH g h I 30 1 = h (I + 7) 1 := by
  unfold giveH
  rw [hcp_ne _ (fun i i0 i1 => by have := H.rg i0 (show i < 10 by omega); show 30 < g 31 i ∨ g 31 i + 5 < 30; omega), zup_same]
theorem gv_past {g h : zH} (hg : zGd g) (H : HG g) {I i k : Int} (hI : I = 102 ∨ I = 171) (k0' : 0 ≤ h (I + 7) 1) (k1' : h (I + 7) 1 ≤ 10) (i0 : 0 ≤ i) (i1 : i < h (I + 7) 1) (k0 : 0 ≤ k) (k1 : k ≤ 28) : CV (giveH g h I) (g 31 i) k = CV h (I + 9 + 6 * i) k := by
  have e : I + 7 + 1 = 110 ∨ I + 7 + 1 = 179 := by omega
  have gi := img_g hg e i0 (by omega)
  have q := hcp_at (g := g) (h := zup (CPN h 24 (I + 1)) 30 1 (h (I + 7) 1)) (d := 30) (s := I + 7) k0 k1 (h (I + 7) 1).toNat (fun i j i0 i1 j0 j1 => by
    have b := img_g hg e j0 (show j < 10 by omega)
    have c := H.rg i0 (show i < 10 by omega)
    refine ⟨fun ne => H.sp i0 (by omega) j0 (by omega) ne, ?_⟩
    have c' : g (30 + 1) i = g 31 i := rfl
    unfold sep
    omega) i i0 (by omega)
  unfold giveH
  have q' : CV (hcp g (zup (CPN h 24 (I + 1)) 30 1 (h (I + 7) 1)) 30 (I + 7) (h (I + 7) 1).toNat) (g 31 i) k = _ := q
  rw [q', gi, show I + 9 + 6 * i = I + 7 + 1 + 1 + 6 * i by omega, CV_zup (by omega)]
  exact CV_congr (fun a b a0 a1 => CPN_ne (by omega)) k
theorem St_back {g c m : zH} {t : Int} (S : SI g c m t) (j : Int) : St t g c m ((backC g c t j).1, g, (backC g c t j).2) (backR m j) := by
  obtain ⟨R, hm, hg, H, ht, tr⟩ := id S
  have m2 := hm.1.2.2.1
  unfold backC backR
  by_cases z : 0 ≤ j ∧ j ≤ 1
  · rw [if_pos z, if_pos z]
    obtain ⟨q1, q2⟩ := R.2.2.2.1 j z.1 (by omega)
    obtain ⟨p1, p2⟩ := hm.2.2.2.2.2.2.1 j z.1 (by omega)
    rw [q1]
    by_cases y : m 247 j = 0
    · rw [if_pos y, if_pos y]
      exact St_same S _
    · rw [if_neg y, if_neg y]
      have y1 : m 247 j = 1 := by omega
      obtain ⟨x1, x2, x3⟩ := q2 y1
      obtain ⟨n1, n2, n3⟩ := p2 y1
      have hI : (102 : Int) + 69 * j = 102 ∨ (102 : Int) + 69 * j = 171 := by omega
      rw [show (109 : Int) + 69 * j = 102 + 69 * j + 7 by omega] at x2
      have k1 : c (102 + 69 * j + 7) 1 ≤ 10 := by rw [x2]; exact n2.2
      have k0 : 0 ≤ c (102 + 69 * j + 7) 1 := by rw [x2]; exact n2.1
      have es : sumN (fun d => c (102 + 69 * j + 3) d) (c t 2).toNat = sumN (fun d => m 246 (320 * j + 4 * d + 1)) (m 240 3).toNat := by
        rw [R.1.1.2.2.1]
        refine sumN_congr _ (fun d d0 d1 => ?_)
        have a1 := x1 (4 * d + 1) (Or.inl ⟨by omega, by omega⟩)
        rw [CV_1 d0 (by omega), ← Int.add_assoc] at a1
        rw [← a1, show (103 : Int) + 69 * j + 2 = 102 + 69 * j + 3 by omega]
      rw [es]
      obtain ⟨c', hc'⟩ : ∃ c', c' = giveH g c (102 + 69 * j) := ⟨_, rfl⟩
      obtain ⟨m', hm'⟩ : ∃ m', m' = zup (cpo (cpo m 244 0 246 (320 * j) 29) 245 0 246 (320 * j + 29) 290) 240 9 (m 246 (320 * j + 319)) := ⟨_, rfl⟩
      rw [← hc', ← hm']
      have ec : ∀ a b, (a < 24 ∨ 91 < a) → c' a b = c a b := fun a b h1 => by rw [hc']; exact giveH_ne H k1 h1
      have em : ∀ a b, a ≠ 244 → a ≠ 245 → ¬ (a = 240 ∧ b = 9) → m' a b = m a b := fun a b h1 h2 h3 => by rw [hm', zup_ne h3, cpo_ne h2, cpo_ne h1]
      have s9 : m' 240 9 = m 246 (320 * j + 319) := by rw [hm', zup_same]
      have s4 : ∀ k, 0 ≤ k → k ≤ 28 → m' 244 k = m 246 (320 * j + k) := fun k k0 k1 => by rw [hm', zup_ne (by omega), cpo_ne (by omega), cpo_in (by omega) (by omega), show k - 0 + 320 * j = 320 * j + k by omega]
      have s5 : ∀ i k, 0 ≤ i → i < 10 → 0 ≤ k → k ≤ 28 → m' 245 (29 * i + k) = m 246 (320 * j + 29 + 29 * i + k) := fun i k i0 i1 k0 k1 => by rw [hm', zup_ne (by omega), cpo_in (by omega) (by omega), cpo_ne (by omega), show 29 * i + k - 0 + (320 * j + 29) = 320 * j + 29 + 29 * i + k by omega]
      have e0 := em 240 0 (by omega) (by omega) (by omega)
      have e3 := em 240 3 (by omega) (by omega) (by omega)
      have e5 := em 240 5 (by omega) (by omega) (by omega)
      have vk' : ∀ k, vk m' k → vk m k := fun k hk => by unfold vk at *; rw [e3, e5] at hk; exact hk
      refine ⟨rfl, ?_, ?_, hg, H, rfl, fun a b ha => ec a b (by omega), fun a b ha => em a b (by omega) (by omega) (by omega), ?_⟩
      · show Rel g c' m' t
        refine Rel_of ht hm (fun a b _ ha => ec a b ha) (fun a b _ h1 h2 h3 => em a b h1 h2 h3) R (fun k hk => ?_) ⟨?_, fun i i0 i1 k hk => ?_⟩
        · have r := vk_r hm (vk' k hk)
          rw [s4 k r.1 r.2, ← x1 k (vk' k hk), hc', gv_now H hI k1 r.1 r.2, show (102 : Int) + 69 * j + 1 = 103 + 69 * j by omega]
        · rw [s9, ← x2, hc', gv_known H k1]
        · have r := vk_r hm (vk' k hk)
          rw [s9] at i1
          rw [s5 i k i0 (by omega) r.1 r.2, ← x3 i i0 i1 k (vk' k hk), hc', gv_past hg H hI k0 k1 i0 (by rw [x2]; exact i1) r.1 r.2, show (102 : Int) + 69 * j + 9 + 6 * i = 111 + 69 * j + 6 * i by omega]
      · show MB m'
        refine MB_of (fun a b _ h1 h2 h3 => em a b h1 h2 h3) hm ?_ (by rw [s9]; exact n2) (fun i i0 i1 => ?_)
        · exact NB_eq hm.1.2.2.1 hm.1.2.2.2.1 e0 e3 e5 (fun k hk => by have r := vk_r hm hk; rw [Int.zero_add]; exact s4 k r.1 r.2) n1
        · rw [s9] at i1
          exact NB_eq hm.1.2.2.1 hm.1.2.2.2.1 e0 e3 e5 (fun k hk => by have r := vk_r hm hk; exact s5 i k i0 (by omega) r.1 r.2) (n3 i i0 i1)
      · show m' 240 14 ≤ m 240 14 + 200000
        rw [em 240 14 (by omega) (by omega) (by omega)]
        omega
  · rw [if_neg z, if_neg z]
    exact St_same S _
/-! the text, what is heard, the trace -/
theorem Rel_fr {g c c' m m' : zH} {t : Int} (ht : t = 4 ∨ t = 14) (hm : MB m) (H : HG g) (ec : ∀ a b, a ≠ 1 → a ≠ 2 → a ≠ 3 → (a < 93 ∨ 95 < a) → c' a b = c a b) (em : ∀ a b, a ≠ 248 → a ≠ 249 → ¬ (a = 240 ∧ 13 ≤ b) → m' a b = m a b) (R : Rel g c m t) (h1 : RelW c' m') (h2 : RelX c' m') : Rel g c' m' t := by
  have e0 := em 240 0 (by omega) (by omega) (by omega)
  have e1 := em 240 1 (by omega) (by omega) (by omega)
  have e3 := em 240 3 (by omega) (by omega) (by omega)
  have e5 := em 240 5 (by omega) (by omega) (by omega)
  have e9 := em 240 9 (by omega) (by omega) (by omega)
  have f1 := fun b => em 241 b (by omega) (by omega) (by omega)
  have f2 := fun b => em 242 b (by omega) (by omega) (by omega)
  have f3 := fun b => em 243 b (by omega) (by omega) (by omega)
  have f4 := fun b => em 244 b (by omega) (by omega) (by omega)
  have f5 := fun b => em 245 b (by omega) (by omega) (by omega)
  have f6 := fun b => em 246 b (by omega) (by omega) (by omega)
  have f7 := fun b => em 247 b (by omega) (by omega) (by omega)
  have hi := hm.hi
  have m4 := hm.1.2.2.2.2.1
  obtain ⟨⟨⟨t0, t1, t2, t3⟩, rp, rd, rc⟩, rn, ⟨rk, rh⟩, ri, _, _⟩ := R
  have et := fun b => ec t b (by omega) (by omega) (by omega) (by omega)
  have vk' : ∀ k, vk m' k → vk m k := fun k hk => by unfold vk at *; rw [e3, e5] at hk; exact hk
  refine ⟨⟨⟨by rw [et, e0]; exact t0, by rw [et, e1]; exact t1, by rw [et, e3]; exact t2, by rw [et, e5]; exact t3⟩, ?_, ?_, ?_⟩, ?_, ⟨?_, ?_⟩, ?_, h1, h2⟩
  · intro p p0 p1
    rw [ec (t + 1) p (by omega) (by omega) (by omega) (by omega), ec (t + 2) p (by omega) (by omega) (by omega) (by omega), ec (t + 3) p (by omega) (by omega) (by omega) (by omega), f1, f1, f1]
    exact rp p p0 (by omega)
  · intro p p0 p1
    rw [ec (t + 4) p (by omega) (by omega) (by omega) (by omega), ec (t + 6) p (by omega) (by omega) (by omega) (by omega), ec (t + 8) p (by omega) (by omega) (by omega) (by omega), f2, f2, f2]
    exact rd p p0 (by omega)
  · intro p p0 p1
    rw [ec (t + 9) p (by omega) (by omega) (by omega) (by omega), f3]
    exact rc p p0 (by omega)
  · intro k hk
    rw [f4, ← rn k (vk' k hk)]
    exact CV_congr (fun a b a0 a1 => ec a b (by omega) (by omega) (by omega) (by omega)) k
  · rw [ec 30 1 (by omega) (by omega) (by omega) (by omega), e9]; exact rk
  · intro i i0 i1 k hk
    have gi := H.rg i0 (show i < 10 by omega)
    rw [f5, ← rh i i0 (by omega) k (vk' k hk)]
    exact CV_congr (fun a b a0 a1 => ec a b (by omega) (by omega) (by omega) (by omega)) k
  · intro j j0 j1
    rw [ec (102 + 69 * j) 2 (by omega) (by omega) (by omega) (by omega), f7]
    refine ⟨(ri j j0 j1).1, fun z => ?_⟩
    obtain ⟨x1, x2, x3⟩ := (ri j j0 j1).2 z
    have q9 := hi j j0 j1 z
    refine ⟨fun k hk => ?_, ?_, fun i i0 i1 k hk => ?_⟩
    · rw [f6, ← x1 k (vk' k hk)]
      exact CV_congr (fun a b a0 a1 => ec a b (by omega) (by omega) (by omega) (by omega)) k
    · rw [f6, ec _ _ (by omega) (by omega) (by omega) (by omega)]; exact x2
    · rw [f6] at i1
      rw [f6, ← x3 i i0 i1 k (vk' k hk)]
      exact CV_congr (fun a b a0 a1 => ec a b (by omega) (by omega) (by omega) (by omega)) k
theorem MB_fr {m m' : zH} (hm : MB m) (em : ∀ a b, a ≠ 248 → a ≠ 249 → ¬ (a = 240 ∧ 13 ≤ b) → m' a b = m a b) (h13 : 0 ≤ m' 240 13 ∧ m' 240 13 ≤ 4) (h14 : 0 ≤ m' 240 14 ∧ m' 240 14 ≤ 2000000000) (h16 : 0 ≤ m' 240 16 ∧ m' 240 16 ≤ 150) (h1 : MBh m') (h2 : MBt m') : MB m' := by
  have e0 := em 240 0 (by omega) (by omega) (by omega)
  have e1 := em 240 1 (by omega) (by omega) (by omega)
  have e3 := em 240 3 (by omega) (by omega) (by omega)
  have e5 := em 240 5 (by omega) (by omega) (by omega)
  have e9 := em 240 9 (by omega) (by omega) (by omega)
  have f1 := fun b => em 241 b (by omega) (by omega) (by omega)
  have f2 := fun b => em 242 b (by omega) (by omega) (by omega)
  have f3 := fun b => em 243 b (by omega) (by omega) (by omega)
  have f4 := fun b => em 244 b (by omega) (by omega) (by omega)
  have f5 := fun b => em 245 b (by omega) (by omega) (by omega)
  have f6 := fun b => em 246 b (by omega) (by omega) (by omega)
  have f7 := fun b => em 247 b (by omega) (by omega) (by omega)
  obtain ⟨⟨q0, q1, q2, q3, q4, q5, q6, q7⟩, mp, md, mn, nb, np, mi, mh, mt⟩ := hm
  refine ⟨⟨by rw [e0]; exact q0, by rw [e1]; exact q1, by rw [e3]; exact q2, by rw [e5]; exact q3, by rw [e9]; exact q4, h13, h16, h14⟩, ?_, ?_, ?_, ?_, ?_, ?_, h1, h2⟩
  · unfold MBp at *; simp only [e0, e1, f1]; exact mp
  · unfold MBd at *; simp only [e3, f2]; exact md
  · unfold MBn at *; simp only [e5, f3]; exact mn
  · unfold NB at *; simp only [e0, e3, e5, f4]; exact nb
  · unfold NB at *; simp only [e0, e3, e5, e9, f5]; exact np
  · unfold MBi NB at *; simp only [e0, e3, e5, f6, f7]; exact mi
theorem St_type {g c m : zH} {t : Int} (S : SI g c m t) (x : Int) : St t g c m ((typeC c x).1, g, (typeC c x).2) (typeR m x) := by
  obtain ⟨R, hm, hg, H, ht, tr⟩ := id S
  obtain ⟨⟨q0, q1, q2, q3, q4, q5, q6, q7⟩, mp, md, mn, nb, np, mi, mh, mt⟩ := id hm
  obtain ⟨rw5, rx0, rx1, rx2⟩ := R.2.2.2.2
  unfold typeC typeR
  rw [rx1]
  by_cases z : 0 ≤ x ∧ x ≤ 255
  · rw [if_pos z, if_pos z]
    by_cases y : m 240 16 < 150
    · rw [if_pos y, if_neg (by omega)]
      obtain ⟨m', hm'⟩ : ∃ m', m' = zup (zup m 249 (m 240 16) x) 240 16 (m 240 16 + 1) := ⟨_, rfl⟩
      rw [← hm']
      have em : ∀ a b, a ≠ 249 → ¬ (a = 240 ∧ b = 16) → m' a b = m a b := fun a b h1 h2 => by rw [hm', zup_ne h2, zup_ne (fun w => h1 w.1)]
      have s16 : m' 240 16 = m 240 16 + 1 := by rw [hm', zup_same]
      have st : ∀ i, i ≠ m 240 16 → m' 249 i = m 249 i := fun i h => by rw [hm', zup_ne (by omega), zup_ne (fun w => h w.2)]
      have sx : m' 249 (m 240 16) = x := by rw [hm', zup_ne (by omega), zup_same]
      refine ⟨rfl, ?_, ?_, hg, H, rfl, fun a b ha => (zup_ne (by omega)).trans (zup_ne (by omega)), fun a b ha => em a b (by omega) (by omega), ?_⟩
      · show Rel g (zup (zup c 3 (m 240 16) x) 2 1 (m 240 16 + 1)) m' t
        refine Rel_fr ht hm H (fun a b h1 h2 h3 _ => (zup_ne (fun w => h2 w.1)).trans (zup_ne (fun w => h3 w.1))) (fun a b h1 h2 h3 => em a b h2 (by omega)) R ⟨?_, fun i i0 i1 => ?_⟩ ⟨?_, ?_, fun i i0 i1 => ?_⟩
        · rw [zup_ne (by omega), zup_ne (by omega), em 240 13 (by omega) (by omega)]; exact rw5.1
        · rw [em 240 13 (by omega) (by omega)] at i1
          exact ⟨(zup_ne (by omega)).trans ((zup_ne (by omega)).trans ((rw5.2 i i0 i1).1.trans (em 248 _ (by omega) (by omega)).symm)), (zup_ne (by omega)).trans ((zup_ne (by omega)).trans ((rw5.2 i i0 i1).2.trans (em 248 _ (by omega) (by omega)).symm))⟩
        · rw [zup_ne (by omega), zup_ne (by omega), em 240 14 (by omega) (by omega)]; exact rx0
        · rw [zup_same, s16]
        · rw [s16] at i1
          rw [zup_ne (by omega)]
          by_cases w : i = m 240 16
          · rw [w, sx, zup_same]
          · rw [zup_ne (fun v => w v.2), st i w]; exact rx2 i i0 (by omega)
      · show MB m'
        refine MB_fr hm (fun a b h1 h2 h3 => em a b h2 (by omega)) (by rw [em 240 13 (by omega) (by omega)]; exact q5) (by rw [em 240 14 (by omega) (by omega)]; exact q7) (by omega) ?_ (fun i i0 i1 => ?_)
        · unfold MBh at *
          simp only [em 240 13 (by omega) (by omega), em 240 1 (by omega) (by omega), fun b => em 248 b (by omega) (by omega)]
          exact mh
        · rw [s16] at i1
          by_cases w : i = m 240 16
          · rw [w, sx]; exact z
          · rw [st i w]; exact mt i i0 (by omega)
      · show m' 240 14 ≤ m 240 14 + 200000
        rw [em 240 14 (by omega) (by omega)]
        omega
    · rw [if_neg y, if_pos (by omega)]
      exact St_same S _
  · rw [if_neg z, if_neg z]
    exact St_same S _
/-- one of the reference's counts falls to none, and the class's with it -/
theorem St_clear {g c m : zH} {t : Int} (S : SI g c m t) : St t g c m (c 2 1, g, zup c 2 1 0) (clearR m) := by
  obtain ⟨R, hm, hg, H, ht, tr⟩ := id S
  obtain ⟨⟨q0, q1, q2, q3, q4, q5, q6, q7⟩, mp, md, mn, nb, np, mi, mh, mt⟩ := id hm
  obtain ⟨rw5, rx0, rx1, rx2⟩ := R.2.2.2.2
  unfold clearR
  have em : ∀ a b, ¬ (a = 240 ∧ b = 16) → zup m 240 16 0 a b = m a b := fun a b h => zup_ne h
  have s : zup m 240 16 0 240 16 = 0 := zup_same _ _ _ _
  refine ⟨rx1, ?_, ?_, hg, H, rfl, fun a b ha => zup_ne (by omega), fun a b ha => em a b (by omega), ?_⟩
  · show Rel g (zup c 2 1 0) (zup m 240 16 0) t
    refine Rel_fr ht hm H (fun a b h1 h2 h3 _ => zup_ne (fun w => h2 w.1)) (fun a b h1 h2 h3 => em a b (by omega)) R ⟨?_, fun i i0 i1 => ?_⟩ ⟨?_, ?_, fun i i0 i1 => ?_⟩
    · rw [zup_ne (by omega), em 240 13 (by omega)]; exact rw5.1
    · rw [em 240 13 (by omega)] at i1
      exact ⟨(zup_ne (by omega)).trans ((rw5.2 i i0 i1).1.trans (em 248 _ (by omega)).symm), (zup_ne (by omega)).trans ((rw5.2 i i0 i1).2.trans (em 248 _ (by omega)).symm)⟩
    · rw [zup_ne (by omega), em 240 14 (by omega)]; exact rx0
    · rw [zup_same, s]
    · rw [s] at i1; omega
  · show MB (zup m 240 16 0)
    refine MB_fr hm (fun a b h1 h2 h3 => em a b (by omega)) (by rw [em 240 13 (by omega)]; exact q5) (by rw [em 240 14 (by omega)]; exact q7) (by omega) ?_ (fun i i0 i1 => by rw [s] at i1; omega)
    unfold MBh at *
    simp only [em 240 13 (by omega), em 240 1 (by omega), fun b => em 248 b (by omega)]
    exact mh
  · show zup m 240 16 0 240 14 ≤ m 240 14 + 200000
    rw [em 240 14 (by omega)]
    omega
theorem St_forget {g c m : zH} {t : Int} (S : SI g c m t) : St t g c m (c 93 2, g, zup c 93 2 0) (forgetR m) := by
  obtain ⟨R, hm, hg, H, ht, tr⟩ := id S
  obtain ⟨⟨q0, q1, q2, q3, q4, q5, q6, q7⟩, mp, md, mn, nb, np, mi, mh, mt⟩ := id hm
  obtain ⟨rw5, rx0, rx1, rx2⟩ := R.2.2.2.2
  unfold forgetR
  have em : ∀ a b, ¬ (a = 240 ∧ b = 13) → zup m 240 13 0 a b = m a b := fun a b h => zup_ne h
  have s : zup m 240 13 0 240 13 = 0 := zup_same _ _ _ _
  refine ⟨rw5.1, ?_, ?_, hg, H, rfl, fun a b ha => zup_ne (by omega), fun a b ha => em a b (by omega), ?_⟩
  · show Rel g (zup c 93 2 0) (zup m 240 13 0) t
    refine Rel_fr ht hm H (fun a b h1 h2 h3 _ => zup_ne (by omega)) (fun a b h1 h2 h3 => em a b (by omega)) R ⟨?_, fun i i0 i1 => ?_⟩ ⟨?_, ?_, fun i i0 i1 => ?_⟩
    · rw [zup_same, s]
    · rw [s] at i1; omega
    · rw [zup_ne (by omega), em 240 14 (by omega)]; exact rx0
    · rw [zup_ne (by omega), em 240 16 (by omega)]; exact rx1
    · rw [em 240 16 (by omega)] at i1
      rw [zup_ne (by omega), em 249 _ (by omega)]; exact rx2 i i0 i1
  · show MB (zup m 240 13 0)
    refine MB_fr hm (fun a b h1 h2 h3 => em a b (by omega)) (by omega) (by rw [em 240 14 (by omega)]; exact q7) (by rw [em 240 16 (by omega)]; exact q6) (fun i i0 i1 => by rw [s] at i1; omega) ?_
    unfold MBt at *
    simp only [em 240 16 (by omega), fun b => em 249 b (by omega)]
    exact mt
  · show zup m 240 13 0 240 14 ≤ m 240 14 + 200000
    rw [em 240 14 (by omega)]
    omega
theorem St_hears {g c m : zH} {t : Int} (S : SI g c m t) (p w : Int) : St t g c m ((hearsC c t p w).1, g, (hearsC c t p w).2) (hearsR m p w) := by
  obtain ⟨R, hm, hg, H, ht, tr⟩ := id S
  obtain ⟨⟨q0, q1, q2, q3, q4, q5, q6, q7⟩, mp, md, mn, nb, np, mi, mh, mt⟩ := id hm
  obtain ⟨rw5, rx0, rx1, rx2⟩ := R.2.2.2.2
  unfold hearsC hearsR
  rw [R.1.1.2.1, rw5.1]
  by_cases z : 0 ≤ p ∧ p < m 240 1
  · rw [if_pos z, if_pos z]
    by_cases y : 0 ≤ w ∧ w ≤ 1
    · rw [if_pos y, if_pos y]
      by_cases x : m 240 13 < 4
      · rw [if_pos x, if_neg (by omega)]
        obtain ⟨m', hm'⟩ : ∃ m', m' = zup (zup (zup m 248 (2 * m 240 13) p) 248 (2 * m 240 13 + 1) w) 240 13 (m 240 13 + 1) := ⟨_, rfl⟩
        rw [← hm']
        have em : ∀ a b, a ≠ 248 → ¬ (a = 240 ∧ b = 13) → m' a b = m a b := fun a b h1 h2 => by rw [hm', zup_ne h2, zup_ne (fun w => h1 w.1), zup_ne (fun w => h1 w.1)]
        have s13 : m' 240 13 = m 240 13 + 1 := by rw [hm', zup_same]
        have st : ∀ i, i ≠ 2 * m 240 13 → i ≠ 2 * m 240 13 + 1 → m' 248 i = m 248 i := fun i h h' => by rw [hm', zup_ne (by omega), zup_ne (fun w => h' w.2), zup_ne (fun w => h w.2)]
        have sp : m' 248 (2 * m 240 13) = p := by rw [hm', zup_ne (by omega), zup_ne (by omega), zup_same]
        have sw : m' 248 (2 * m 240 13 + 1) = w := by rw [hm', zup_ne (by omega), zup_same]
        refine ⟨rfl, ?_, ?_, hg, H, rfl, fun a b ha => (zup_ne (by omega)).trans ((zup_ne (by omega)).trans (zup_ne (by omega))), fun a b ha => em a b (by omega) (by omega), ?_⟩
        · show Rel g (zup (zup (zup c 94 (m 240 13) p) 95 (m 240 13) w) 93 2 (m 240 13 + 1)) m' t
          refine Rel_fr ht hm H (fun a b h1 h2 h3 _ => (zup_ne (by omega)).trans ((zup_ne (by omega)).trans (zup_ne (by omega)))) (fun a b h1 h2 h3 => em a b h1 (by omega)) R ⟨?_, fun i i0 i1 => ?_⟩ ⟨?_, ?_, fun i i0 i1 => ?_⟩
          · rw [zup_same, s13]
          · rw [s13] at i1
            have A94 : ∀ i, zup (zup (zup c 94 (m 240 13) p) 95 (m 240 13) w) 93 2 (m 240 13 + 1) 94 i = zup c 94 (m 240 13) p 94 i := fun i => (zup_ne (by omega)).trans (zup_ne (by omega))
            have A95 : ∀ i, zup (zup (zup c 94 (m 240 13) p) 95 (m 240 13) w) 93 2 (m 240 13 + 1) 95 i = zup (zup c 94 (m 240 13) p) 95 (m 240 13) w 95 i := fun i => zup_ne (by omega)
            by_cases v : i = m 240 13
            · rw [v]
              exact ⟨(A94 _).trans ((zup_same _ _ _ _).trans sp.symm), (A95 _).trans ((zup_same _ _ _ _).trans sw.symm)⟩
            · exact ⟨(A94 i).trans ((zup_ne (fun u => v u.2)).trans ((rw5.2 i i0 (by omega)).1.trans (st _ (by omega) (by omega)).symm)), (A95 i).trans ((zup_ne (fun u => v u.2)).trans ((zup_ne (by omega)).trans ((rw5.2 i i0 (by omega)).2.trans (st _ (by omega) (by omega)).symm)))⟩
          · rw [zup_ne (by omega), zup_ne (by omega), zup_ne (by omega), em 240 14 (by omega) (by omega)]; exact rx0
          · rw [zup_ne (by omega), zup_ne (by omega), zup_ne (by omega), em 240 16 (by omega) (by omega)]; exact rx1
          · rw [em 240 16 (by omega) (by omega)] at i1
            rw [zup_ne (by omega), zup_ne (by omega), zup_ne (by omega), em 249 _ (by omega) (by omega)]; exact rx2 i i0 i1
        · show MB m'
          refine MB_fr hm (fun a b h1 h2 h3 => em a b h1 (by omega)) (by omega) (by rw [em 240 14 (by omega) (by omega)]; exact q7) (by rw [em 240 16 (by omega) (by omega)]; exact q6) (fun i i0 i1 => ?_) ?_
          · rw [s13] at i1
            rw [em 240 1 (by omega) (by omega)]
            by_cases v : i = m 240 13
            · rw [v, sp, sw]
              exact ⟨z, by omega⟩
            · rw [st _ (by omega) (by omega), st _ (by omega) (by omega)]
              exact mh i i0 (by omega)
          · unfold MBt at *
            simp only [em 240 16 (by omega) (by omega), fun b => em 249 b (by omega) (by omega)]
            exact mt
        · show m' 240 14 ≤ m 240 14 + 200000
          rw [em 240 14 (by omega) (by omega)]
          omega
      · rw [if_neg x, if_pos (by omega)]
        exact St_same S _
    · rw [if_neg y, if_neg y]
      exact St_same S _
  · rw [if_neg z, if_neg z]
    exact St_same S _
theorem St_tr {g c m : zH} {t : Int} (S : SI g c m t) (v n n' : Int) (n0 : 0 ≤ n) (n1 : n ≤ 200000) (hn : n' = m 240 14 + n) (hv : c 1 9 + n = n') {v' : Int} (e : v = v') : St t g c m (v, g, zup c 1 9 n') (v', zup m 240 14 n') := by
  obtain ⟨R, hm, hg, H, ht, tr⟩ := id S
  obtain ⟨⟨q0, q1, q2, q3, q4, q5, q6, q7⟩, mp, md, mn, nb, np, mi, mh, mt⟩ := id hm
  obtain ⟨rw5, rx0, rx1, rx2⟩ := R.2.2.2.2
  have em : ∀ a b, ¬ (a = 240 ∧ b = 14) → zup m 240 14 n' a b = m a b := fun a b h => zup_ne h
  have s : zup m 240 14 n' 240 14 = n' := zup_same _ _ _ _
  refine ⟨e, ?_, ?_, hg, H, rfl, fun a b ha => zup_ne (by omega), fun a b ha => em a b (by omega), ?_⟩
  · show Rel g (zup c 1 9 n') (zup m 240 14 n') t
    refine Rel_fr ht hm H (fun a b h1 h2 h3 _ => zup_ne (fun w => h1 w.1)) (fun a b h1 h2 h3 => em a b (by omega)) R ⟨?_, fun i i0 i1 => ?_⟩ ⟨?_, ?_, fun i i0 i1 => ?_⟩
    · rw [zup_ne (by omega), em 240 13 (by omega)]; exact rw5.1
    · rw [em 240 13 (by omega)] at i1
      exact ⟨(zup_ne (by omega)).trans ((rw5.2 i i0 i1).1.trans (em 248 _ (by omega)).symm), (zup_ne (by omega)).trans ((rw5.2 i i0 i1).2.trans (em 248 _ (by omega)).symm)⟩
    · rw [zup_same, s]
    · rw [zup_ne (by omega), em 240 16 (by omega)]; exact rx1
    · rw [em 240 16 (by omega)] at i1
      rw [zup_ne (by omega), em 249 _ (by omega)]; exact rx2 i i0 i1
  · show MB (zup m 240 14 n')
    refine MB_fr hm (fun a b h1 h2 h3 => em a b (by omega)) (by rw [em 240 13 (by omega)]; exact q5) (by rw [s]; omega) (by rw [em 240 16 (by omega)]; exact q6) ?_ ?_
    · unfold MBh at *
      simp only [em 240 13 (by omega), em 240 1 (by omega), fun b => em 248 b (by omega)]
      exact mh
    · unfold MBt at *
      simp only [em 240 16 (by omega), fun b => em 249 b (by omega)]
      exact mt
  · show zup m 240 14 n' 240 14 ≤ m 240 14 + 200000
    rw [s]
    omega
theorem St_mark {g c m : zH} {t : Int} (S : SI g c m t) (k d : Int) : St t g c m ((markC c t k d).1, g, (markC c t k d).2) (markR m k d) := by
  obtain ⟨R, hm, hg, H, ht, tr⟩ := id S
  have rx := R.2.2.2.2.2.1
  unfold markC markR
  rw [R.1.1.2.2.1]
  by_cases z : 0 ≤ d ∧ d < m 240 3
  · have n := R.n0 hm z.1 z.2
    have q := R.1.2.2.1 d z.1 z.2
    rw [if_pos z, if_pos z, n.1, n.2.1, n.2.2.2, q.2.1, rx]
    by_cases y : 0 ≤ k ∧ k ≤ 5
    · rw [if_pos y]
      rcases (show k = 0 ∨ k = 1 ∨ k = 2 ∨ k = 3 ∨ k = 4 ∨ k = 5 by omega) with rfl | rfl | rfl | rfl | rfl | rfl
      · exact St_tr S _ 1 _ (by omega) (by omega) rfl (by omega) rfl
      · rw [show m 240 14 + 10 + 1 = m 240 14 + 11 by omega]
        exact St_tr S _ 11 _ (by omega) (by omega) rfl (by omega) rfl
      · rw [show m 240 14 + 100 + 1 = m 240 14 + 101 by omega]
        exact St_tr S _ 101 _ (by omega) (by omega) rfl (by omega) rfl
      · rw [show m 240 14 + 1000 + 10 + 1 = m 240 14 + 1000 + 11 by omega]
        exact St_tr S ((m 244 (4 * d + 1) + m 242 (3 * d + 1)) * 2) 1011 _ (by omega) (by omega) (by omega) (by omega) (v' := 2 * (m 244 (4 * d + 1) + m 242 (3 * d + 1))) (Int.mul_comm _ _)
      · rw [show m 240 14 + 10000 + 100 + 1 = m 240 14 + 10000 + 101 by omega]
        exact St_tr S _ 10101 _ (by omega) (by omega) (by omega) (by omega) rfl
      · rw [show m 240 14 + 100000 + 1 = m 240 14 + 100001 by omega]
        exact St_tr S _ 100001 _ (by omega) (by omega) (by omega) (by omega) rfl
    · rw [if_neg y, if_neg (by omega), if_neg (by omega), if_neg (by omega), if_neg (by omega), if_neg (by omega), if_neg (by omega)]
      exact St_same S _
  · rw [if_neg z, if_neg z]
    split <;> exact St_same S _
