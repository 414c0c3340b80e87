/-! Rows of new cells, of calls, of a method's start and end. -/
/-- a new cell's heap: all of it is 0 -/
def znw (h : zH) (r : Int) : zH := fun a b => if a = r then 0 else h a b
theorem znw_32 {h : zH} {r : Int} (hh : ∀ a b, r32 (h a b)) : ∀ a b, r32 (znw h r a b) := by
  intro a b
  unfold znw
  split
  · exact r32_0
  · exact hh a b
theorem znw_off {h : zH} {n : Nat} : ∀ a : Int, a ≤ n → znw h ((n : Int) + 1) a = h a := by
  intro a ha
  funext b
  unfold znw
  rw [if_neg (by omega)]
theorem zfv_0 (base : Nat) (ty : FieldType) : (ty = .int ∨ ty = .boolean ∨ ty = .long ∨ (∃ n, ty = .object n) ∨ ∃ t, ty = .array t) → defaultValue ty = zfv base ty 0 0 := by
  rintro (rfl | rfl | rfl | ⟨n, rfl⟩ | ⟨t, rfl⟩) <;> rfl
theorem ztot_app (sh : zS) (kd : Nat × Nat) (g : zH) : ztot (sh.1 ++ [kd], g) = ztot sh + kd.2 := by simp [ztot]
theorem zsize {p : Program} {l : Launch} {e : Env} {R : Room} {s : State} {m : MethodId} {args : Array Value} {below : List Frame} {meth : Method} {c : Code} {T : State} {H : Heap} {locs : List Loc} {cells slots base k0 : Nat} {D : va_G} {I : zI} {sh : zS} {h : zH} (X : Stand p l e R s m args below meth c T locs cells slots) (hT : T.heap = H) (hb : s.heap.size = base + k0) (h1 : cells + k0 = sh.1.length) (hP : zP base D I sh h H) (hS : va_S (fun q => base ≤ q) s.heap H locs) : H.size = base + sh.1.length := by
  have a1 : T.heap.size ≤ s.heap.size + cells := X.same.2.2.1
  rw [hT] at a1
  have a2 := hS.1
  by_cases h0 : sh.1.length = 0
  · omega
  · have hlt : sh.1.length - 1 < sh.1.length := by omega
    have := (hP.1 _ _ (zws_at (base := base) (I := I) (h := h) (List.getElem?_eq_getElem hlt))).lt
    simp only at this
    omega
section Z3
variable {X : State → Nat → Prop} {l : Launch} {M : zMd} {B1 B2 : Nat} {Q : zQt} {pc : Nat} {ls : List (Option zV)} {st : List zV} {sh : zS} {h : zH}
theorem z_new {idx ci N : Nat} {C : String} {T : u_T} (hc : zCl ci C T N) (hdf : ∀ k, k < N → (zty ci k = .int ∨ zty ci k = .boolean ∨ zty ci k = .long ∨ (∃ n, zty ci k = .object n) ∨ ∃ t, zty ci k = .array t)) (hl : Cond.classLink (zy M).cls idx C ∈ zT) (hd : decode (zb M) pc = .ok (.new idx, 3)) (hb1 : sh.1.length + 1 ≤ B1) (hb2 : ztot sh + N ≤ B2) (hlt : sh.1.length < 2147483647) (K : zW X l M B1 B2 Q (pc + 3) ls (zr ((sh.1.length : Int) + 1) :: st) (sh.1 ++ [(ci, N)], znw sh.2 ((sh.1.length : Int) + 1)) (znw h ((sh.1.length : Int) + 1))) : zW X l M B1 B2 Q pc ls st sh h := by
  intro p e R s m args below meth c Z base D I k0 n0 E H locs cells slots lsr h1 h2 hP hS hL hst hls T9 hT9 X9
  have hsz := zsize X9 hT9 E.2.2.2.2.1 h1 hP hS
  revert T9
  show W p l e R s m args below meth c H locs cells slots Z (F0 m pc lsr (st.map (zc base)))
  have hKn := E.2.1.1.1 ci _ hc.1
  refine W.newcK E.1.1 E.1.2.1 E.1.2.2.2.1 (E.1.2.2.2.2 _ hl) (E.1.2.2.2.2 _ hc.2.2.2.2.2.1) (E.1.2.2.2.2 _ hc.2.2.2.2.2.2) rfl hd (by have := E.2.2.2.1.1; omega) (by have := E.2.2.2.1.2; omega) hKn.2.1 rfl fun H9 kC hkC e1 z1 o1 => ?_
  have hk : ∀ (k : Nat) (x : Nat × va_E), (zws base I sh h)[k]? = some x → H9[x.1]? = H[x.1]? := fun k x hx => o1 x.1 ((hP.1 k x hx).lt)
  have hP9 : va_P D zcl (zws base I sh h ++ [(base + sh.1.length, .inr (ci, (List.range N).map (fun k => zfv base (zty ci k) 0 0)))]) H9 := by
    refine (hP.1.kept hk).app (fun k x hx => ?_)
    have hz : k < 1 := (List.getElem?_eq_some_iff.mp hx).1
    rw [show k = 0 by omega] at hx
    cases hx
    rw [hsz] at e1
    exact ⟨_, hc.1, (u_born (zty ci) E.1.2.2.2.2 hc.2.2.1 hKn hkC e1 hc.2.2.2.1).to (fun j hj => by rw [zfv_0 base _ (hdf j hj)]; simp [vp_V, hj])⟩
  rw [zws_push (kd := (ci, N)) (h' := znw h ((sh.1.length : Int) + 1)) (g' := znw sh.2 ((sh.1.length : Int) + 1)) (by rw [zce_obj hc.2.1]; simp [znw]) znw_off znw_off] at hP9
  have hr : zc base (zr ((sh.1.length : Int) + 1)) = .ref (base + sh.1.length) := by
    show zrf base _ = _
    rw [zrf_pos (by omega)]
    congr 2
  have K := K p e R s m args below meth c Z base D I k0 n0 E H9 locs (cells + 1) (slots + N) lsr (by simp; omega) (by rw [ztot_app]; omega) ⟨hP9, znw_32 hP.2⟩ ⟨Nat.le_trans hS.1 (by omega), fun x h1 h2 => (o1 x (Nat.lt_of_lt_of_le h1 hS.1)).trans (hS.2.1 x h1 h2), hS.2.2⟩ hL (zok_cons (v := zr _) trivial hst) hls
  simp only [List.map_cons, hr] at K
  rw [hsz]
  exact K
theorem z_newi {n : Int} {N : Nat} (hd : decode (zb M) pc = .ok (.newarray .int, 2)) (harr : Cond.arrayClass .int ∈ zT) (hn : n = N) (hN : N < 100000) (hb1 : sh.1.length + 1 ≤ B1) (hb2 : ztot sh + N ≤ B2) (hlt : sh.1.length < 2147483647) (K : zW X l M B1 B2 Q (pc + 2) ls (zr ((sh.1.length : Int) + 1) :: st) (sh.1 ++ [(100, N)], znw sh.2 ((sh.1.length : Int) + 1)) (znw h ((sh.1.length : Int) + 1))) : zW X l M B1 B2 Q pc ls (zi n :: st) sh h := by
  intro p e R s m args below meth c Z base D I k0 n0 E H locs cells slots lsr h1 h2 hP hS hL hst hls T9 hT9 X9
  have hsz := zsize X9 hT9 E.2.2.2.2.1 h1 hP hS
  revert T9
  show W p l e R s m args below meth c H locs cells slots Z (F0 m pc lsr ((zi n :: st).map (zc base)))
  have hr9 : r32 n := zok_hd hst
  refine va_newaK (atype := .int) (N := N) E.1.1 E.1.2.1 (E.1.2.2.2.2 _ harr) rfl hd rfl (by rw [i0, ii_lt hr9 r32_0]; omega) (by rw [zi_clamp hr9]; omega) (by show N * 4 ≤ _; omega) (by have := E.2.2.2.1.1; omega) (by have := E.2.2.2.1.2; omega) hsz fun H9 cA e1 z1 o1 hAr hfc => ?_
  have hcA : cA = I 0 := by
    have := (E.2.1.1.2 0 (I 0, .int) rfl).2
    exact Option.some.inj (hfc.symm.trans this)
  subst hcA
  have hk : ∀ (k : Nat) (x : Nat × va_E), (zws base I sh h)[k]? = some x → H9[x.1]? = H[x.1]? := fun k x hx => o1 x.1 (by have := (hP.1 k x hx).lt; omega)
  have hP9 : va_P D zcl (zws base I sh h ++ [(base + sh.1.length, .inl (I 0, N, .inl (fun _ => Int32.ofInt 0)))]) H9 := by
    refine (hP.1.kept hk).app (fun k x hx => ?_)
    have hz : k < 1 := (List.getElem?_eq_some_iff.mp hx).1
    rw [show k = 0 by omega] at hx
    cases hx
    exact e1
  rw [zws_push (kd := (100, N)) (h' := znw h ((sh.1.length : Int) + 1)) (g' := znw sh.2 ((sh.1.length : Int) + 1)) (by rw [zce_i]; simp [znw]) znw_off znw_off] at hP9
  have hr : zc base (zr ((sh.1.length : Int) + 1)) = .ref (base + sh.1.length) := by
    show zrf base _ = _
    rw [zrf_pos (by omega)]
    congr 2
  have K := K p e R s m args below meth c Z base D I k0 n0 E H9 locs (cells + 1) (slots + N) lsr (by simp; omega) (by rw [ztot_app]; omega) ⟨hP9, znw_32 hP.2⟩ ⟨Nat.le_trans hS.1 (by omega), fun x h1 h2 => (o1 x (by have := hS.1; omega)).trans (hS.2.1 x h1 h2), hS.2.2⟩ hL (zok_cons (v := zr _) trivial (zok_tl hst)) hls
  simp only [List.map_cons, hr] at K
  exact K
theorem z_newz {n : Int} {N : Nat} (hd : decode (zb M) pc = .ok (.newarray .boolean, 2)) (harr : Cond.arrayClass .boolean ∈ zT) (hn : n = N) (hN : N < 100000) (hb1 : sh.1.length + 1 ≤ B1) (hb2 : ztot sh + N ≤ B2) (hlt : sh.1.length < 2147483647) (K : zW X l M B1 B2 Q (pc + 2) ls (zr ((sh.1.length : Int) + 1) :: st) (sh.1 ++ [(101, N)], znw sh.2 ((sh.1.length : Int) + 1)) (znw h ((sh.1.length : Int) + 1))) : zW X l M B1 B2 Q pc ls (zi n :: st) sh h := by
  intro p e R s m args below meth c Z base D I k0 n0 E H locs cells slots lsr h1 h2 hP hS hL hst hls T9 hT9 X9
  have hsz := zsize X9 hT9 E.2.2.2.2.1 h1 hP hS
  revert T9
  show W p l e R s m args below meth c H locs cells slots Z (F0 m pc lsr ((zi n :: st).map (zc base)))
  have hr9 : r32 n := zok_hd hst
  refine va_newaK (atype := .boolean) (N := N) E.1.1 E.1.2.1 (E.1.2.2.2.2 _ harr) rfl hd rfl (by rw [i0, ii_lt hr9 r32_0]; omega) (by rw [zi_clamp hr9]; omega) (by show N * 1 ≤ _; omega) (by have := E.2.2.2.1.1; omega) (by have := E.2.2.2.1.2; omega) hsz fun H9 cA e1 z1 o1 hAr hfc => ?_
  have hcA : cA = I 1 := by
    have := (E.2.1.1.2 1 (I 1, .boolean) rfl).2
    exact Option.some.inj (hfc.symm.trans this)
  subst hcA
  have hk : ∀ (k : Nat) (x : Nat × va_E), (zws base I sh h)[k]? = some x → H9[x.1]? = H[x.1]? := fun k x hx => o1 x.1 (by have := (hP.1 k x hx).lt; omega)
  have hP9 : va_P D zcl (zws base I sh h ++ [(base + sh.1.length, .inl (I 1, N, .inl (fun _ => Int32.ofInt 0)))]) H9 := by
    refine (hP.1.kept hk).app (fun k x hx => ?_)
    have hz : k < 1 := (List.getElem?_eq_some_iff.mp hx).1
    rw [show k = 0 by omega] at hx
    cases hx
    exact e1
  rw [zws_push (kd := (101, N)) (h' := znw h ((sh.1.length : Int) + 1)) (g' := znw sh.2 ((sh.1.length : Int) + 1)) (by rw [zce_z]; simp [znw]) znw_off znw_off] at hP9
  have hr : zc base (zr ((sh.1.length : Int) + 1)) = .ref (base + sh.1.length) := by
    show zrf base _ = _
    rw [zrf_pos (by omega)]
    congr 2
  have K := K p e R s m args below meth c Z base D I k0 n0 E H9 locs (cells + 1) (slots + N) lsr (by simp; omega) (by rw [ztot_app]; omega) ⟨hP9, znw_32 hP.2⟩ ⟨Nat.le_trans hS.1 (by omega), fun x h1 h2 => (o1 x (by have := hS.1; omega)).trans (hS.2.1 x h1 h2), hS.2.2⟩ hL (zok_cons (v := zr _) trivial (zok_tl hst)) hls
  simp only [List.map_cons, hr] at K
  exact K
end Z3
