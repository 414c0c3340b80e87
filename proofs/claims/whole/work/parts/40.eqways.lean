/-! The odds and the ways: class and reference answer alike. -/
theorem odds_ok : ∀ x k C : Int, 0 ≤ x → x < 11 → 0 ≤ k → k < 5 → 0 ≤ C → C < 5 → (smN x C (min k C + 1).toNat = ovrN x k C.toNat (pw C).toNat ∧ pwI 10 C.toNat = undN x C.toNat (pw C).toNat ∧ max 1 (egC 64 (smN x C (min k C + 1).toNat) (pwI 10 C.toNat)) = gcdM x k C) := by
  have := fin3 (P := fun x k C => smN x C (min k C + 1).toNat = ovrN x k C.toNat (pw C).toNat ∧ pwI 10 C.toNat = undN x C.toNat (pw C).toNat ∧ max 1 (egC 64 (smN x C (min k C + 1).toNat) (pwI 10 C.toNat)) = gcdM x k C) (A := 11) (B := 5) (C := 5) (by decide +kernel)
  intro x k C x0 x1 k0 k1 c0 c1
  exact this x k C x0 x1 k0 k1 c0 c1
theorem eq_odds {g c m : zH} {t : Int} (R : Rel g c m t) (hm : MB m) (x k w : Int) : oddsC c t x k w = oddsF m x k w := by
  have m3 := hm.1.2.2.2.1
  unfold oddsC oddsF
  rw [R.1.1.2.2.2]
  by_cases z : 0 ≤ x ∧ x ≤ 10
  · by_cases y : 0 ≤ k ∧ k ≤ 4
    · obtain ⟨a, b, e⟩ := odds_ok x k (m 240 5) z.1 (by omega) y.1 (by omega) m3.1 (by omega)
      rw [e, a, b]
    · rw [if_pos z, if_pos z, if_neg y, if_neg y]
  · rw [if_neg z, if_neg z]
theorem zdivp {x y : Int} (h0 : 0 ≤ x) (h1 : x ≤ 268435456) (y0 : 0 < y) (y1 : y ≤ 1000) : zdiv x y = x / y := by
  have e1 : (Int32.ofInt x).toInt = x := of_toInt (by unfold r32; omega)
  have e2 : (Int32.ofInt y).toInt = y := of_toInt (by unfold r32; omega)
  have e3 := lg_idiv_nonneg (x := Int32.ofInt x) (y := Int32.ofInt y) (by omega) (by omega)
  unfold zdiv
  rw [e3, e1, e2]
theorem zmodp {x y : Int} (h0 : 0 ≤ x) (h1 : x ≤ 268435456) (y0 : 0 < y) (y1 : y ≤ 1000) : zmod x y = x % y := by
  have q0 : 0 ≤ x / y := Int.ediv_nonneg h0 (by omega)
  have q1 : x / y ≤ x := Int.ediv_le_self y h0
  have q : Int32.ofInt x / Int32.ofInt y = Int32.ofInt (x / y) := by
    apply Int32.toInt_inj.1
    have e := zdivp h0 h1 y0 y1
    unfold zdiv at e
    rw [e, of_toInt (by unfold r32; omega)]
  unfold zmod
  rw [q, ← Int32.ofInt_mul, ← Int32.ofInt_sub]
  have r0 := Int.emod_nonneg x (show y ≠ 0 by omega)
  have r1 := Int.emod_lt_of_pos x y0
  have e : x - x / y * y = x % y := by rw [Int.emod_def, Int.mul_comm]
  rw [e, of_toInt (by unfold r32; omega)]
/-- there are ways -/
theorem dist_ex {m : zH} (hm : MB m) {d : Int} (d0 : 0 ≤ d) (d1 : d < m 240 3) : DistOK m d (dist m d) := by
  have m0 := hm.1.1
  have hs := (hm.nw d0 d1).1
  have step : ∀ (n : Nat) (f : Int → Int), FInv m d f → Pot f < n → ∃ f', DistOK m d f' := by
    intro n
    induction n with
    | zero =>
      intro f hi hn
      have b := sumN_r (f := fun r => fpot (f r)) (B := 300000) (N := 8) (fun r r0 r1 => by have a := hi.2.1 r r0 r1; have b := Cnt_r f; unfold fpot; split <;> omega) 8 (by omega)
      have e : Pot f = sumN (fun r => fpot (f r)) 8 := rfl
      omega
    | succ n ih =>
      intro f hi hn
      by_cases z : ∃ u v c, edg m d u v c ∧ f u ≠ -9 ∧ (f v = -9 ∨ f u + c < f v)
      · obtain ⟨u, v, c, e, hu, hv⟩ := z
        have q := FInv_up hm d0 d1 e hi hu hv
        exact ih _ q.1 (by have := q.2; omega)
      · have stable : ∀ u v c, edg m d u v c → f u ≠ -9 → f v ≠ -9 ∧ f v ≤ f u + c := fun u v c e hu => by
          by_cases y : f v = -9 ∨ f u + c < f v
          · exact absurd ⟨u, v, c, e, hu, y⟩ z
          · omega
        refine ⟨f, hi.1, fun r r0 r1 => ?_, stable, fun v v0 v1 hv hs => ?_⟩
        · have a := hi.2.1 r r0 r1
          have b := Cnt_r f
          omega
        · obtain ⟨u, c, g1, g2, g3⟩ := hi.2.2 v v0 v1 hv hs
          have := stable u v c g1 g2
          exact ⟨u, c, g1, g2, by omega⟩
  have hF : FInv m d (fun r => if r = m 244 (4 * d) then 0 else -9) := by
    refine ⟨if_pos rfl, fun r r0 r1 => ?_, fun v v0 v1 hv hs => absurd (if_neg hs) hv⟩
    by_cases z : r = m 244 (4 * d)
    · have e : Cnt (fu (fun _ => -9) (m 244 (4 * d)) 0) = Cnt (fun _ => -9) - fcnt ((fun _ => -9) (m 244 (4 * d))) + fcnt 0 := Cnt_fu hs.1 (by omega)
      have e1 : Cnt (fun _ => -9) = 0 := by decide
      have e2 : fcnt (-9) = 0 := by decide
      have e3 : fcnt 0 = 1 := by decide
      have e4 : (fun r => if r = m 244 (4 * d) then 0 else -9) = fu (fun _ => -9) (m 244 (4 * d)) 0 := rfl
      rw [e4, e, e1, e3]
      show _ ∨ (0 ≤ fu (fun _ => -9) (m 244 (4 * d)) 0 r ∧ fu (fun _ => -9) (m 244 (4 * d)) 0 r ≤ 36001 * (0 - fcnt (-9) + 1 - 1))
      rw [z, fu_at, e2]
      exact Or.inr ⟨by decide, by decide⟩
    · exact Or.inl (if_neg z)
  obtain ⟨f, hf⟩ := step ((Pot (fun r => if r = m 244 (4 * d) then 0 else -9)).toNat + 1) _ hF (by omega)
  exact Classical.epsilon_spec (p := fun f => DistOK m d f) ⟨f, hf⟩
theorem sumN_le {f f' : Int → Int} : ∀ n : Nat, (∀ i : Int, 0 ≤ i → i < n → f i ≤ f' i) → sumN f n ≤ sumN f' n := by
  intro n
  induction n with
  | zero => intro _; exact Int.le_refl _
  | succ n ih =>
    intro e
    have a := ih (fun i i0 i1 => e i i0 (by omega))
    have b := e n (by omega) (by omega)
    show sumN f n + f n ≤ sumN f' n + f' n
    omega
theorem sumN_lt {f f' : Int → Int} {u : Int} : ∀ n : Nat, (∀ i : Int, 0 ≤ i → i < n → f i ≤ f' i) → 0 ≤ u → u < n → f u + 1 ≤ f' u → sumN f n + 1 ≤ sumN f' n := by
  intro n
  induction n with
  | zero => intro _ u0 u1; omega
  | succ n ih =>
    intro e u0 u1 hu
    have b := e n (by omega) (by omega)
    show sumN f n + f n + 1 ≤ sumN f' n + f' n
    by_cases z : u = n
    · have a := sumN_le n (fun i i0 i1 => e i i0 (by omega))
      rw [z] at hu
      omega
    · have a := ih (fun i i0 i1 => e i i0 (by omega)) u0 (by omega) hu
      omega
def rk (D : Int → Int) (v : Int) : Int := sumN (fun u => if D u ≠ -9 ∧ D u < D v then 1 else 0) 8
theorem rk_lt {D : Int → Int} {u v : Int} (u0 : 0 ≤ u) (u1 : u < 8) (hu : D u ≠ -9) (h : D u < D v) : rk D u + 1 ≤ rk D v := by
  unfold rk
  refine sumN_lt (u := u) 8 (fun i i0 i1 => ?_) u0 u1 ?_
  · by_cases z : D i ≠ -9 ∧ D i < D u
    · rw [if_pos z, if_pos ⟨z.1, Int.lt_trans z.2 h⟩]; exact Int.le_refl _
    · rw [if_neg z]; split <;> omega
  · rw [if_neg (fun z => absurd z.2 (Int.lt_irrefl _)), if_pos ⟨hu, h⟩]; exact Int.le_refl _
theorem rk_R {D : Int → Int} {R v : Int} (hR : 2 ≤ R ∧ R ≤ 8) (v0 : 0 ≤ v) (hv : v < R) (h : ∀ u, 0 ≤ u → u < 8 → D u ≠ -9 → u < R) : rk D v + 1 ≤ R := by
  have e : sumN (fun u => if u < R then 1 else 0) 8 = R := by
    rcases (show R = 2 ∨ R = 3 ∨ R = 4 ∨ R = 5 ∨ R = 6 ∨ R = 7 ∨ R = 8 by omega) with rfl | rfl | rfl | rfl | rfl | rfl | rfl <;> decide
  unfold rk
  have a := sumN_lt (f := fun u => if D u ≠ -9 ∧ D u < D v then 1 else 0) (f' := fun u => if u < R then 1 else 0) (u := v) 8 (fun i i0 i1 => by
    by_cases z : D i ≠ -9 ∧ D i < D v
    · rw [if_pos z, if_pos (h i i0 i1 z.1)]; exact Int.le_refl _
    · rw [if_neg z]; split <;> omega) v0 (by omega) (by
    rw [if_neg (fun z => absurd z.2 (Int.lt_irrefl _)), if_pos hv]; exact Int.le_refl _)
  rw [e] at a
  exact a
theorem rk_0 (D : Int → Int) (v : Int) : 0 ≤ rk D v := (sumN_r (B := 1) (N := 8) (fun d _ _ => by split <;> omega) 8 (by omega)).1
/-- a room to which ways lead is a room -/
theorem dist_in {m : zH} (hm : MB m) {d : Int} (d0 : 0 ≤ d) (d1 : d < m 240 3) {v : Int} (v0 : 0 ≤ v) (v1 : v < 8) (hv : dist m d v ≠ -9) : v < m 240 0 := by
  by_cases z : v = m 244 (4 * d)
  · rw [z]; exact (hm.nw d0 d1).1.2
  · obtain ⟨u, c, g1, _, _⟩ := (dist_ex hm d0 d1).2.2.2 v v0 v1 hv z
    exact (edg_r hm d0 d1 g1).2.1.2
theorem dist_rk {m : zH} (hm : MB m) {d : Int} (d0 : 0 ≤ d) (d1 : d < m 240 3) {v : Int} (v0 : 0 ≤ v) (v1 : v < 8) (hv : dist m d v ≠ -9) : rk (dist m d) v + 1 ≤ m 240 0 := rk_R hm.1.1 v0 (dist_in hm d0 d1 v0 v1 hv) (fun u u0 u1 hu => dist_in hm d0 d1 u0 u1 hu)
/-- an edge, by its weariness -/
def edK (m : zH) (d a b K : Int) : Prop := ∃ p, 0 ≤ p ∧ p < m 240 1 ∧ mayM m d p ∧ K = m 244 (4 * d + 1) * m 241 (3 * p + 2) ∧ ((a = m 241 (3 * p) ∧ b = m 241 (3 * p + 1)) ∨ (a = m 241 (3 * p + 1) ∧ b = m 241 (3 * p)))
theorem edK_of {m : zH} {d a b c : Int} (h : edg m d a b c) : ∃ K, edK m d a b K ∧ c = 100 * K + 1 := by
  obtain ⟨p, p0, p1, hm, hc, hab⟩ := h
  exact ⟨_, ⟨p, p0, p1, hm, rfl, hab⟩, by rw [hc, Int.mul_assoc]⟩
theorem edK_to {m : zH} {d a b K : Int} (h : edK m d a b K) : edg m d a b (100 * K + 1) := by
  obtain ⟨p, p0, p1, hm, hc, hab⟩ := h
  exact ⟨p, p0, p1, hm, by rw [hc, Int.mul_assoc], hab⟩
theorem dist_mod {m : zH} (hm : MB m) {d : Int} (d0 : 0 ≤ d) (d1 : d < m 240 3) : ∀ (n : Nat) (v : Int), 0 ≤ v → v < 8 → dist m d v ≠ -9 → dist m d v < n → dist m d v % 100 ≤ rk (dist m d) v := by
  have hd := dist_ex hm d0 d1
  have m0 := hm.1.1
  intro n
  induction n with
  | zero =>
    intro v v0 v1 hv hn
    have := hd.2.1 v v0 v1
    omega
  | succ n ih =>
    intro v v0 v1 hv hn
    by_cases z : v = m 244 (4 * d)
    · have e := hd.1
      rw [← z] at e
      have r := rk_0 (dist m d) v
      rw [e]
      exact r
    · obtain ⟨u, c, g1, g2, g3⟩ := hd.2.2.2 v v0 v1 hv z
      have er := edg_r hm d0 d1 g1
      obtain ⟨K, _, hK⟩ := edK_of g1
      have a := ih u (by omega) (by omega) g2 (by omega)
      have b := rk_lt (D := dist m d) (v := v) (show 0 ≤ u by omega) (by omega) g2 (by omega)
      have c1 := dist_rk hm d0 d1 v0 v1 hv
      have c2 := hd.2.1 u (by omega) (by omega)
      generalize rk (dist m d) u = ru at *
      generalize rk (dist m d) v = rv at *
      omega
/-- what the class must find -/
noncomputable def cst (m : zH) (d v : Int) : Int := if dist m d v = -9 then 268435456 else 16 * (dist m d v / 100) + dist m d v % 100
theorem dist_md {m : zH} (hm : MB m) {d : Int} (d0 : 0 ≤ d) (d1 : d < m 240 3) {v : Int} (v0 : 0 ≤ v) (v1 : v < 8) (hv : dist m d v ≠ -9) : (0 ≤ dist m d v ∧ dist m d v ≤ 252007) ∧ dist m d v % 100 ≤ 7 := by
  have a := (dist_ex hm d0 d1).2.1 v v0 v1
  have b := dist_mod hm d0 d1 252008 v v0 v1 hv (by omega)
  have c := dist_rk hm d0 d1 v0 v1 hv
  have m0 := hm.1.1
  omega
theorem cst_lt {m : zH} (hm : MB m) {d : Int} (d0 : 0 ≤ d) (d1 : d < m 240 3) {v : Int} (v0 : 0 ≤ v) (v1 : v < 8) : (dist m d v = -9 ∧ cst m d v = 268435456) ∨ (dist m d v ≠ -9 ∧ 0 ≤ cst m d v ∧ cst m d v ≤ 40327 ∧ cst m d v = 16 * (dist m d v / 100) + dist m d v % 100) := by
  by_cases z : dist m d v = -9
  · exact Or.inl ⟨z, if_pos z⟩
  · have e : cst m d v = 16 * (dist m d v / 100) + dist m d v % 100 := if_neg z
    have a := dist_md hm d0 d1 v0 v1 z
    exact Or.inr ⟨z, by omega, by omega, e⟩
theorem cst_edge {m : zH} (hm : MB m) {d : Int} (d0 : 0 ≤ d) (d1 : d < m 240 3) {u v K : Int} (e : edK m d u v K) (hu : dist m d u ≠ -9) : dist m d v ≠ -9 ∧ cst m d v ≤ cst m d u + (16 * K + 1) := by
  have g := edK_to e
  have m0 := hm.1.1
  have r := edg_r hm d0 d1 g
  have q := (dist_ex hm d0 d1).2.2.1 u v _ g hu
  have a := dist_md hm d0 d1 (v := u) (by omega) (by omega) hu
  have b := dist_md hm d0 d1 (v := v) (by omega) (by omega) q.1
  have ea : cst m d u = 16 * (dist m d u / 100) + dist m d u % 100 := if_neg hu
  have eb : cst m d v = 16 * (dist m d v / 100) + dist m d v % 100 := if_neg q.1
  exact ⟨q.1, by omega⟩
theorem cst_par {m : zH} (hm : MB m) {d : Int} (d0 : 0 ≤ d) (d1 : d < m 240 3) {v : Int} (v0 : 0 ≤ v) (v1 : v < 8) (hv : dist m d v ≠ -9) (z : v ≠ m 244 (4 * d)) : ∃ u K, edK m d u v K ∧ (0 ≤ u ∧ u < 8) ∧ dist m d u ≠ -9 ∧ rk (dist m d) u + 1 ≤ rk (dist m d) v ∧ cst m d v = cst m d u + (16 * K + 1) := by
  obtain ⟨u, c, g1, g2, g3⟩ := (dist_ex hm d0 d1).2.2.2 v v0 v1 hv z
  have er := edg_r hm d0 d1 g1
  have m0 := hm.1.1
  obtain ⟨K, hK, hc⟩ := edK_of g1
  have b := rk_lt (D := dist m d) (v := v) (show 0 ≤ u by omega) (by omega) g2 (by omega)
  have a1 := dist_md hm d0 d1 (v := u) (by omega) (by omega) g2
  have a2 := dist_md hm d0 d1 v0 v1 hv
  have ea : cst m d u = 16 * (dist m d u / 100) + dist m d u % 100 := if_neg g2
  have eb : cst m d v = 16 * (dist m d v / 100) + dist m d v % 100 := if_neg hv
  exact ⟨u, K, hK, by omega, g2, b, by omega⟩
theorem les_le {f : Int → Int} {a b c : Int} (v : Int) : les f a b c v ≤ f v := by
  by_cases z : f a < 268435456
  · rw [les_t z]
    by_cases y : v = b
    · rw [y, fu_at]; exact Int.min_le_left _ _
    · rw [fu_ne y]; exact Int.le_refl _
  · rw [les_f z]; exact Int.le_refl _
theorem les_at {f : Int → Int} {a b c : Int} (z : f a < 268435456) : les f a b c b ≤ f a + c := by
  rw [les_t z, fu_at]; exact Int.min_le_right _ _
theorem rlx_le {pa pb ps : Int → Int} {st str : Int} {f : Int → Int} {p : Int} (v : Int) : rlx pa pb ps st str f p v ≤ f v := by
  by_cases z : st + ps p ≤ str
  · rw [rlx_t z]; exact Int.le_trans (les_le v) (les_le v)
  · rw [rlx_f z]; exact Int.le_refl _
theorem rpass_le {pa pb ps : Int → Int} {st str : Int} {f : Int → Int} (v : Int) : ∀ n k : Nat, k ≤ n → rpass pa pb ps st str f n v ≤ rpass pa pb ps st str f k v := by
  intro n
  induction n with
  | zero => intro k hk; rw [show k = 0 by omega]; exact Int.le_refl _
  | succ n ih =>
    intro k hk
    by_cases z : k = n + 1
    · rw [z]; exact Int.le_refl _
    · exact Int.le_trans (rlx_le v) (ih k (by omega))
theorem rit_le {pa pb ps : Int → Int} {st str : Int} {P : Nat} {f : Int → Int} (v : Int) : ∀ n : Nat, rit pa pb ps st str P f n v ≤ f v := by
  intro n
  induction n with
  | zero => exact Int.le_refl _
  | succ n ih => exact Int.le_trans (rpass_le v P 0 (by omega)) ih
theorem rlx_up {pa pb ps : Int → Int} {st str : Int} {f : Int → Int} {p u v : Int} (z : st + ps p ≤ str) (hab : (u = pa p ∧ v = pb p) ∨ (u = pb p ∧ v = pa p)) (hu : f u < 268435456) : rlx pa pb ps st str f p v ≤ f u + (st * ps p * 16 + 1) := by
  rw [rlx_t z]
  rcases hab with ⟨rfl, rfl⟩ | ⟨rfl, rfl⟩
  · exact Int.le_trans (les_le _) (les_at hu)
  · have a := les_le (f := f) (a := pa p) (b := pb p) (c := st * ps p * 16 + 1) (pb p)
    have b := les_at (f := les f (pa p) (pb p) (st * ps p * 16 + 1)) (a := pb p) (b := pa p) (c := st * ps p * 16 + 1) (Int.lt_of_le_of_lt a hu)
    exact Int.le_trans b (Int.add_le_add_right a _)
theorem rpass_up {pa pb ps : Int → Int} {st str : Int} {f : Int → Int} {p : Nat} {u v : Int} {P : Nat} (hp : p < P) (z : st + ps p ≤ str) (hab : (u = pa p ∧ v = pb p) ∨ (u = pb p ∧ v = pa p)) (hu : f u < 268435456) : rpass pa pb ps st str f P v ≤ f u + (st * ps p * 16 + 1) := by
  have a := rpass_le (pa := pa) (pb := pb) (ps := ps) (st := st) (str := str) (f := f) v P (p + 1) (by omega)
  have b : rpass pa pb ps st str f p u ≤ f u := rpass_le u p 0 (by omega)
  have c := rlx_up (f := rpass pa pb ps st str f p) z hab (Int.lt_of_le_of_lt b hu)
  exact Int.le_trans a (Int.le_trans c (Int.add_le_add_right b _))
/-- the class finds it -/
theorem eq_rit {m : zH} (hm : MB m) {d : Int} (d0 : 0 ≤ d) (d1 : d < m 240 3) {pa pb ps : Int → Int} (hp : ∀ p, 0 ≤ p → p < m 240 1 → pa p = m 241 (3 * p) ∧ pb p = m 241 (3 * p + 1) ∧ ps p = m 241 (3 * p + 2)) : ∀ v, 0 ≤ v → v < 8 → rit pa pb ps (m 244 (4 * d + 1)) (m 242 (3 * d)) (m 240 1).toNat (f0C (m 244 (4 * d))) (m 240 0 - 1).toNat v = cst m d v := by
  have m0 := hm.1.1
  have m1 := hm.1.2.1
  have hd := dist_ex hm d0 d1
  have K2 : ∀ x : Int, 16 * (m 244 (4 * d + 1) * x) + 1 = m 244 (4 * d + 1) * x * 16 + 1 := fun x => by rw [Int.mul_comm 16]
  have ed : ∀ p : Int, 0 ≤ p → p < m 240 1 → m 244 (4 * d + 1) + ps p ≤ m 242 (3 * d) → edK m d (pa p) (pb p) (m 244 (4 * d + 1) * ps p) ∧ edK m d (pb p) (pa p) (m 244 (4 * d + 1) * ps p) := by
    intro p p0 p1 z
    obtain ⟨e1, e2, e3⟩ := hp p p0 p1
    rw [e1, e2, e3]
    rw [e3] at z
    exact ⟨⟨p, p0, p1, z, rfl, Or.inl ⟨rfl, rfl⟩⟩, ⟨p, p0, p1, z, rfl, Or.inr ⟨rfl, rfl⟩⟩⟩
  have lesL : ∀ (f : Int → Int) (a b K : Int), edK m d a b K → (∀ v, 0 ≤ v → v < 8 → cst m d v ≤ f v) → ∀ v, 0 ≤ v → v < 8 → cst m d v ≤ les f a b (16 * K + 1) v := by
    intro f a b K e hf v v0 v1
    by_cases z : f a < 268435456
    · rw [les_t z]
      by_cases y : v = b
      · rw [y, fu_at]
        have r := edg_r hm d0 d1 (edK_to e)
        have fa := hf a (by omega) (by omega)
        have fb := hf b (by omega) (by omega)
        rcases cst_lt hm d0 d1 (v := a) (by omega) (by omega) with q | q
        · have := q.2; omega
        · have w := (cst_edge hm d0 d1 e q.1).2
          omega
      · rw [fu_ne y]; exact hf v v0 v1
    · rw [les_f z]; exact hf v v0 v1
  have passL : ∀ (f : Int → Int) (n : Nat), (n : Int) ≤ m 240 1 → (∀ v, 0 ≤ v → v < 8 → cst m d v ≤ f v) → ∀ v, 0 ≤ v → v < 8 → cst m d v ≤ rpass pa pb ps (m 244 (4 * d + 1)) (m 242 (3 * d)) f n v := by
    intro f n
    induction n with
    | zero => intro _ hf; exact hf
    | succ n ih =>
      intro hn hf
      have q := ih (by omega) hf
      show ∀ v, 0 ≤ v → v < 8 → cst m d v ≤ rlx pa pb ps _ _ (rpass pa pb ps _ _ f n) n v
      by_cases z : m 244 (4 * d + 1) + ps n ≤ m 242 (3 * d)
      · rw [rlx_t z, ← K2]
        obtain ⟨e1, e2⟩ := ed n (by omega) (by omega) z
        exact lesL _ _ _ _ e2 (lesL _ _ _ _ e1 q)
      · rw [rlx_f z]; exact q
  have itL : ∀ n : Nat, ∀ v, 0 ≤ v → v < 8 → cst m d v ≤ rit pa pb ps (m 244 (4 * d + 1)) (m 242 (3 * d)) (m 240 1).toNat (f0C (m 244 (4 * d))) n v := by
    intro n
    induction n with
    | zero =>
      intro v v0 v1
      show cst m d v ≤ if v = m 244 (4 * d) then 0 else 268435456
      have q := cst_lt hm d0 d1 v0 v1
      by_cases z : v = m 244 (4 * d)
      · rw [if_pos z]
        have e := hd.1
        rw [← z] at e
        unfold cst
        rw [e]
        decide
      · rw [if_neg z]
        omega
    | succ n ih => exact passL _ _ (by omega) ih
  have itU : ∀ n : Nat, ∀ v, 0 ≤ v → v < 8 → dist m d v ≠ -9 → rk (dist m d) v ≤ n → rit pa pb ps (m 244 (4 * d + 1)) (m 242 (3 * d)) (m 240 1).toNat (f0C (m 244 (4 * d))) n v ≤ cst m d v := by
    intro n
    induction n with
    | zero =>
      intro v v0 v1 hv hr
      by_cases z : v = m 244 (4 * d)
      · have q := cst_lt hm d0 d1 v0 v1
        show (if v = m 244 (4 * d) then 0 else 268435456) ≤ _
        rw [if_pos z]
        omega
      · obtain ⟨u, K, _, _, _, h4, _⟩ := cst_par hm d0 d1 v0 v1 hv z
        have := rk_0 (dist m d) u
        omega
    | succ n ih =>
      intro v v0 v1 hv hr
      by_cases z : v = m 244 (4 * d)
      · have q := cst_lt hm d0 d1 v0 v1
        have w := rit_le (pa := pa) (pb := pb) (ps := ps) (st := m 244 (4 * d + 1)) (str := m 242 (3 * d)) (P := (m 240 1).toNat) (f := f0C (m 244 (4 * d))) v (n + 1)
        have w2 : f0C (m 244 (4 * d)) v = 0 := if_pos z
        rw [w2] at w
        omega
      · obtain ⟨u, K, h1, h2, h3, h4, h5⟩ := cst_par hm d0 d1 v0 v1 hv z
        obtain ⟨p, p0, p1, hmay, hK, hab⟩ := h1
        obtain ⟨e1, e2, e3⟩ := hp p p0 p1
        have a := ih u h2.1 h2.2 h3 (by omega)
        have q := cst_lt hm d0 d1 h2.1 h2.2
        have b := rpass_up (pa := pa) (pb := pb) (ps := ps) (st := m 244 (4 * d + 1)) (str := m 242 (3 * d)) (f := rit pa pb ps (m 244 (4 * d + 1)) (m 242 (3 * d)) (m 240 1).toNat (f0C (m 244 (4 * d))) n) (p := p.toNat) (u := u) (v := v) (P := (m 240 1).toNat) (by omega) (by rw [show (p.toNat : Int) = p by omega, e3]; exact hmay) (by rw [show (p.toNat : Int) = p by omega, e1, e2]; exact hab) (by omega)
        rw [show (p.toNat : Int) = p by omega, e3, ← hK] at b
        have w : rit pa pb ps (m 244 (4 * d + 1)) (m 242 (3 * d)) (m 240 1).toNat (f0C (m 244 (4 * d))) (n + 1) v ≤ _ := b
        omega
  intro v v0 v1
  have lo := itL (m 240 0 - 1).toNat v v0 v1
  rcases cst_lt hm d0 d1 v0 v1 with q | q
  · have w := rit_le (pa := pa) (pb := pb) (ps := ps) (st := m 244 (4 * d + 1)) (str := m 242 (3 * d)) (P := (m 240 1).toNat) (f := f0C (m 244 (4 * d))) v (m 240 0 - 1).toNat
    have w2 : f0C (m 244 (4 * d)) v ≤ 268435456 := by unfold f0C; split <;> omega
    omega
  · have hi := itU (m 240 0 - 1).toNat v v0 v1 q.1 (by have := dist_rk hm d0 d1 v0 v1 q.1; omega)
    omega
