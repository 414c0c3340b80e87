/-! The ways of the reference: far from one room to all. -/
/-- the heap with f in the row of ways -/
def hf (h : zH) (f : Int → Int) : zH := fun a b => if a = 255 ∧ 0 ≤ b ∧ b < 8 then f b else h a b
def fu (f : Int → Int) (k v : Int) : Int → Int := fun b => if b = k then v else f b
theorem hf_ne {h : zH} {f : Int → Int} {a b : Int} (ha : a ≠ 255) : hf h f a b = h a b := by
  unfold hf
  rw [if_neg (fun q => ha q.1)]
theorem hf_at {h : zH} {f : Int → Int} {b : Int} (h0 : 0 ≤ b) (h1 : b < 8) : hf h f 255 b = f b := by
  unfold hf
  rw [if_pos ⟨rfl, h0, h1⟩]
theorem hf_up {h : zH} {f : Int → Int} {k v : Int} (h0 : 0 ≤ k) (h1 : k < 8) : zup (hf h f) 255 k v = hf h (fu f k v) := by
  funext a b
  unfold zup hf fu
  by_cases ha : a = 255
  · by_cases hb : b = k
    · rw [if_pos ⟨ha, hb⟩, if_pos ⟨ha, by omega, by omega⟩, if_pos hb]
    · rw [if_neg (fun q => hb q.2), if_neg hb]
  · rw [if_neg (fun q => ha q.1), if_neg (fun q => ha q.1), if_neg (fun q => ha q.1)]
theorem hf_hf (h : zH) (f f' : Int → Int) : hf (hf h f) f' = hf h f' := by
  funext a b
  unfold hf
  split <;> rfl
/-- n places hold v -/
def flo (h : zH) (dst v : Int) (n : Nat) : zH := fun a b => if a = dst ∧ 0 ≤ b ∧ b < n then v else h a b
theorem flo_0 (h : zH) (dst v : Int) : flo h dst v 0 = h := by
  funext a b
  unfold flo
  rw [if_neg (by omega)]
theorem flo_succ {h : zH} {dst v : Int} {n : Nat} : zup (flo h dst v n) dst n v = flo h dst v (n + 1) := by
  funext a b
  unfold zup flo
  by_cases ha : a = dst
  · by_cases hb : b = n
    · rw [if_pos ⟨ha, hb⟩, if_pos ⟨ha, by omega, by omega⟩]
    · rw [if_neg (fun q => hb q.2)]
      by_cases hc : 0 ≤ b ∧ b < n
      · rw [if_pos ⟨ha, hc.1, hc.2⟩, if_pos ⟨ha, by omega, by omega⟩]
      · rw [if_neg (fun q => hc q.2), if_neg (fun q => hc ⟨q.2.1, by omega⟩)]
  · rw [if_neg (fun q => ha q.1), if_neg (fun q => ha q.1), if_neg (fun q => ha q.1)]
theorem flo_ne {h : zH} {dst v a b : Int} {n : Nat} (ha : a ≠ dst) : flo h dst v n a b = h a b := by
  unfold flo
  rw [if_neg (fun q => ha q.1)]
theorem sumN_fu {f : Int → Int} {k v : Int} : ∀ n : Nat, (0 ≤ k → k < n → sumN (fu f k v) n = sumN f n - f k + v) ∧ ((k < 0 ∨ n ≤ k) → sumN (fu f k v) n = sumN f n) := by
  intro n
  induction n with
  | zero => exact ⟨fun a b => by omega, fun _ => rfl⟩
  | succ n ih =>
    have e : fu f k v n = if (n : Int) = k then v else f n := rfl
    refine ⟨fun a b => ?_, fun a => ?_⟩
    · show sumN (fu f k v) n + fu f k v n = sumN f n + f n - f k + v
      by_cases hk : (n : Int) = k
      · rw [e, if_pos hk, ih.2 (by omega), ← hk]; omega
      · rw [e, if_neg hk, ih.1 a (by omega)]; omega
    · show sumN (fu f k v) n + fu f k v n = sumN f n + f n
      rw [e, if_neg (by omega), ih.2 (by omega)]
def fpot (x : Int) : Int := if x = -9 then 300000 else x
def fcnt (x : Int) : Int := if x = -9 then 0 else 1
def Pot (f : Int → Int) : Int := sumN (fun r => fpot (f r)) 8
def Cnt (f : Int → Int) : Int := sumN (fun r => fcnt (f r)) 8
theorem fu_map (g : Int → Int) (f : Int → Int) (k v : Int) : (fun r => g (fu f k v r)) = fu (fun r => g (f r)) k (g v) := by
  funext r
  unfold fu
  split <;> rfl
theorem Pot_fu {f : Int → Int} {k v : Int} (h0 : 0 ≤ k) (h1 : k < 8) : Pot (fu f k v) = Pot f - fpot (f k) + fpot v := by
  unfold Pot
  rw [fu_map fpot]
  exact (sumN_fu 8).1 h0 h1
theorem Cnt_fu {f : Int → Int} {k v : Int} (h0 : 0 ≤ k) (h1 : k < 8) : Cnt (fu f k v) = Cnt f - fcnt (f k) + fcnt v := by
  unfold Cnt
  rw [fu_map fcnt]
  exact (sumN_fu 8).1 h0 h1
theorem Cnt_r (f : Int → Int) : 0 ≤ Cnt f ∧ Cnt f ≤ 8 := by
  have := sumN_r (f := fun r => fcnt (f r)) (B := 1) (N := 8) (fun d _ _ => by unfold fcnt; split <;> omega) 8 (by omega)
  unfold Cnt
  omega
/-- he may go from a to b, at the cost c -/
def edg (h : zH) (d a b c : Int) : Prop := ∃ p, 0 ≤ p ∧ p < h 240 1 ∧ mayM h d p ∧ c = 100 * h 244 (4 * d + 1) * h 241 (3 * p + 2) + 1 ∧ ((a = h 241 (3 * p) ∧ b = h 241 (3 * p + 1)) ∨ (a = h 241 (3 * p + 1) ∧ b = h 241 (3 * p)))
/-- what holds while the ways are laid -/
def FInv (h : zH) (d : Int) (f : Int → Int) : Prop := f (h 244 (4 * d)) = 0 ∧ (∀ r, 0 ≤ r → r < 8 → f r = -9 ∨ (0 ≤ f r ∧ f r ≤ 36001 * (Cnt f - 1))) ∧ (∀ v, 0 ≤ v → v < 8 → f v ≠ -9 → v ≠ h 244 (4 * d) → ∃ u c, edg h d u v c ∧ f u ≠ -9 ∧ f u + c ≤ f v)
/-- the ways are laid -/
def DistOK (h : zH) (d : Int) (f : Int → Int) : Prop := f (h 244 (4 * d)) = 0 ∧ (∀ r, 0 ≤ r → r < 8 → f r = -9 ∨ (0 ≤ f r ∧ f r ≤ 252007)) ∧ (∀ u v c, edg h d u v c → f u ≠ -9 → f v ≠ -9 ∧ f v ≤ f u + c) ∧ (∀ v, 0 ≤ v → v < 8 → f v ≠ -9 → v ≠ h 244 (4 * d) → ∃ u c, edg h d u v c ∧ f u ≠ -9 ∧ f v = f u + c)
theorem edg_r {h : zH} (hm : MB h) {d a b c : Int} (d0 : 0 ≤ d) (d1 : d < h 240 3) (he : edg h d a b c) : (0 ≤ a ∧ a < h 240 0) ∧ (0 ≤ b ∧ b < h 240 0) ∧ 1 ≤ c ∧ c ≤ 36001 := by
  obtain ⟨p, p0, p1, hmay, hc, hab⟩ := he
  have f1 := nb0 hm.2.2.2.2.1 d0 d1
  have f2 := hm.2.1 p p0 p1
  have f3 := hm.2.2.1 d d0 d1
  unfold mayM at hmay
  have f4 := mulb f1.2.1.1 (show h 244 (4 * d + 1) ≤ 40 by omega) f2.2.2.1 f2.2.2.2
  have e : 100 * h 244 (4 * d + 1) * h 241 (3 * p + 2) = 100 * (h 244 (4 * d + 1) * h 241 (3 * p + 2)) := Int.mul_assoc _ _ _
  rcases hab with ⟨rfl, rfl⟩ | ⟨rfl, rfl⟩ <;> exact ⟨by omega, by omega, by omega, by omega⟩
/-- one step along an edge keeps what holds, and makes the ways less -/
theorem FInv_up {h : zH} (hm : MB h) {d a b c : Int} {f : Int → Int} (d0 : 0 ≤ d) (d1 : d < h 240 3) (he : edg h d a b c) (hi : FInv h d f) (ha : f a ≠ -9) (hb : f b = -9 ∨ f a + c < f b) : FInv h d (fu f b (f a + c)) ∧ Pot (fu f b (f a + c)) < Pot f := by
  have hr := edg_r hm d0 d1 he
  have m0 := hm.1.1
  obtain ⟨i1, i2, i3⟩ := hi
  have hs := (nb0 hm.2.2.2.2.1 d0 d1).1
  have ca := i2 a (by omega) (by omega)
  have cb := i2 b (by omega) (by omega)
  have cr := Cnt_r f
  have cr' := Cnt_r (fu f b (f a + c))
  have ec := Cnt_fu (f := f) (k := b) (v := f a + c) (by omega) (by omega)
  have ep := Pot_fu (f := f) (k := b) (v := f a + c) (by omega) (by omega)
  have q1 : fcnt (f a + c) = 1 := by unfold fcnt; rw [if_neg (by omega)]
  have q2 : fpot (f a + c) = f a + c := by unfold fpot; rw [if_neg (by omega)]
  have hbs : b ≠ h 244 (4 * d) := by
    intro e
    rw [e, i1] at hb
    omega
  have q3 : fcnt (f b) = if f b = -9 then 0 else 1 := rfl
  have q4 : fpot (f b) = if f b = -9 then 300000 else f b := rfl
  have hcnt : Cnt f ≤ Cnt (fu f b (f a + c)) ∧ (f b = -9 → Cnt (fu f b (f a + c)) = Cnt f + 1) := by
    by_cases z : f b = -9
    · rw [if_pos z] at q3; omega
    · rw [if_neg z] at q3; omega
  refine ⟨⟨?_, ?_, ?_⟩, ?_⟩
  · unfold fu; rw [if_neg (Ne.symm hbs)]; exact i1
  · intro r r0 r1
    have := i2 r r0 r1
    by_cases e : r = b
    · right
      have e2 : fu f b (f a + c) r = f a + c := by unfold fu; rw [if_pos e]
      rw [e2]
      by_cases z : f b = -9
      · have := hcnt.2 z; omega
      · omega
    · have e2 : fu f b (f a + c) r = f r := by unfold fu; rw [if_neg e]
      rw [e2]
      omega
  · intro v v0 v1 hv hvs
    by_cases e : v = b
    · refine ⟨a, c, e ▸ he, ?_, ?_⟩
      · unfold fu; split <;> omega
      · have e2 : fu f b (f a + c) v = f a + c := by unfold fu; rw [if_pos e]
        rw [e2]
        unfold fu
        split
        · next z => exfalso; rw [z] at ha hb; omega
        · exact Int.le_refl _
    · have e2 : fu f b (f a + c) v = f v := by unfold fu; rw [if_neg e]
      rw [e2] at hv ⊢
      obtain ⟨u, k, g1, g2, g3⟩ := i3 v v0 v1 hv hvs
      refine ⟨u, k, g1, ?_, ?_⟩
      · unfold fu; split <;> omega
      · unfold fu
        split
        · next z => rw [z] at g2 g3; omega
        · exact g3
  · rw [ep, q2, q4]
    split
    · omega
    · omega
theorem lpX10_lay0 {l : Launch} {g h : zH} {Q : zQt} {d : Int} (hg : zGd g)  (K : zW zX0 l mX10_lay ((SHL, g).1.length + zmc mX10_lay) (ztot (SHL, g) + zms mX10_lay) Q 22 [some (zr 240), some (zi d), some (zi ((8 : Nat) : Int)), none, none, none, none, none] [] (SHL, g) (flo h 255 (-9) (8))) : ∀ (n i : Nat), i + n = 8 → zW zX0 l mX10_lay ((SHL, g).1.length + zmc mX10_lay) (ztot (SHL, g) + zms mX10_lay) Q 2 [some (zr 240), some (zi d), some (zi (i : Int)), none, none, none, none, none] [] (SHL, g) (flo h 255 (-9) i) := by
  intro n
  induction n with
  | zero =>
    intro i hi 
    have e9 : i = 8 := by omega
    subst e9
    refine z_iload_n dX10_lay_2 rfl ?_
    refine z_bipush dX10_lay_3 ⟨by decide, by decide⟩ ?_
    refine z_icmp_ge (tgt := 22) dX10_lay_5 (by decide) (fun _ => ?_) (fun q => False.elim (by omega))
    exact K
  | succ n ih =>
    intro i hi 
    refine z_iload_n dX10_lay_2 rfl ?_
    refine z_bipush dX10_lay_3 ⟨by decide, by decide⟩ ?_
    refine z_icmp_ge (tgt := 22) dX10_lay_5 (by decide) (fun q => False.elim (by omega)) (fun _ => ?_)
    refine z_aload_n dX10_lay_8 rfl (by omega) ?_
    refine y_geta (k' := 30) fl_X10_60 rfl dX10_lay_9 sh_240 (by decide) (gf_240_30 hg) ?_
    refine z_iload_n dX10_lay_12 rfl ?_
    refine z_bipush dX10_lay_13 ⟨by decide, by decide⟩ ?_
    refine z_iastore dX10_lay_15 sh_255 (by omega) (by omega) ?_
    refine y_iinc dX10_lay_16 (by decide) rfl rfl (by omega) (by omega) lss_8_2 ?_
    refine z_goto (tgt := 2) dX10_lay_19 (by decide) ?_
    rw [flo_succ]
    exact ih (i + 1) (by omega)
/-- the state of one round over the paths -/
def LPc (h : zH) (d : Int) (f0 f : Int → Int) (m : Int) (i : Nat) : Prop := FInv h d f ∧ ((m = 0 ∧ f = f0 ∧ ∀ p : Int, 0 ≤ p → p < (i : Int) → mayM h d p → ((f (h 241 (3 * p)) ≠ -9 → f (h 241 (3 * p + 1)) ≠ -9 ∧ f (h 241 (3 * p + 1)) ≤ f (h 241 (3 * p)) + (100 * h 244 (4 * d + 1) * h 241 (3 * p + 2) + 1)) ∧ (f (h 241 (3 * p + 1)) ≠ -9 → f (h 241 (3 * p)) ≠ -9 ∧ f (h 241 (3 * p)) ≤ f (h 241 (3 * p + 1)) + (100 * h 244 (4 * d + 1) * h 241 (3 * p + 2) + 1)))) ∨ (m = 1 ∧ Pot f < Pot f0))
/-- one side of a path: f goes to f', the flag m to m' -/
def LSt (h : zH) (d a b c : Int) (f f' : Int → Int) (m m' : Int) (may : Prop) : Prop := (f' = fu f b (f a + c) ∧ m' = 1 ∧ f a ≠ -9 ∧ may ∧ (f b = -9 ∨ f a + c < f b)) ∨ (f' = f ∧ m' = m ∧ (f a = -9 ∨ ¬ may ∨ (f b ≠ -9 ∧ f b ≤ f a + c)))
theorem LPc_step {h : zH} (hm : MB h) {d : Int} {f0 f f1 f2 : Int → Int} {m m1 m2 : Int} {i : Nat} (d0 : 0 ≤ d) (d1 : d < h 240 3) (hi : (i : Int) < h 240 1) (hp : LPc h d f0 f m i)
    (s1 : LSt h d (h 241 (3 * (i : Int))) (h 241 (3 * (i : Int) + 1)) (100 * h 244 (4 * d + 1) * h 241 (3 * (i : Int) + 2) + 1) f f1 m m1 (mayM h d i)) (s2 : LSt h d (h 241 (3 * (i : Int) + 1)) (h 241 (3 * (i : Int))) (100 * h 244 (4 * d + 1) * h 241 (3 * (i : Int) + 2) + 1) f1 f2 m1 m2 (mayM h d i)) : LPc h d f0 f2 m2 (i + 1) := by
  have e1 : mayM h d i → edg h d (h 241 (3 * (i : Int))) (h 241 (3 * (i : Int) + 1)) (100 * h 244 (4 * d + 1) * h 241 (3 * (i : Int) + 2) + 1) := fun q => ⟨i, by omega, hi, q, rfl, Or.inl ⟨rfl, rfl⟩⟩
  have e2 : mayM h d i → edg h d (h 241 (3 * (i : Int) + 1)) (h 241 (3 * (i : Int))) (100 * h 244 (4 * d + 1) * h 241 (3 * (i : Int) + 2) + 1) := fun q => ⟨i, by omega, hi, q, rfl, Or.inr ⟨rfl, rfl⟩⟩
  obtain ⟨hf, hc⟩ := hp
  have hle : Pot f ≤ Pot f0 := by
    rcases hc with ⟨-, rfl, -⟩ | ⟨-, q⟩
    · exact Int.le_refl _
    · omega
  rcases s1 with ⟨rfl, rfl, a1, a2, a3⟩ | ⟨rfl, rfl, a1⟩
  · have u1 := FInv_up hm d0 d1 (e1 a2) hf a1 a3
    rcases s2 with ⟨rfl, rfl, b1, b2, b3⟩ | ⟨rfl, rfl, b1⟩
    · have u2 := FInv_up hm d0 d1 (e2 b2) u1.1 b1 b3
      exact ⟨u2.1, Or.inr ⟨rfl, by omega⟩⟩
    · exact ⟨u1.1, Or.inr ⟨rfl, by omega⟩⟩
  · rcases s2 with ⟨rfl, rfl, b1, b2, b3⟩ | ⟨rfl, rfl, b1⟩
    · have u2 := FInv_up hm d0 d1 (e2 b2) hf b1 b3
      exact ⟨u2.1, Or.inr ⟨rfl, by omega⟩⟩
    · refine ⟨hf, ?_⟩
      rcases hc with ⟨q1, q2, q3⟩ | q
      · refine Or.inl ⟨q1, q2, fun p p0 p1 hmay => ?_⟩
        by_cases hpi : p = i
        · subst hpi
          refine ⟨fun z => ?_, fun z => ?_⟩
          · rcases a1 with y | y | y
            · exact absurd y z
            · exact absurd hmay y
            · exact y
          · rcases b1 with y | y | y
            · exact absurd y z
            · exact absurd hmay y
            · exact y
        · exact q3 p p0 (by omega) hmay
      · exact Or.inr q
