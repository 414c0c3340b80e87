/-! The abstract machine: values are whole numbers with a tag, the heap is a function of a cell's number and a place. -/
def zT : List Cond := lw_tbl.filter goodWord
theorem zT_in {w : Cond} (h : w ∈ lw_tbl) (hg : goodWord w = true) : w ∈ zT := List.mem_filter.mpr ⟨h, hg⟩
theorem zT_good {ws : List Cond} (h : ∀ w ∈ ws, w ∈ zT) : GoodIn zT ws := fun w hw => ⟨h w hw, good_of_word (List.mem_filter.mp (h w hw)).2⟩
abbrev zV : Type := Int ⊕ Int ⊕ Int
abbrev zi (x : Int) : zV := Sum.inl x
abbrev zr (x : Int) : zV := Sum.inr (Sum.inl x)
abbrev zl (x : Int) : zV := Sum.inr (Sum.inr x)
abbrev zH : Type := Int → Int → Int
/-- the shapes of all cells, and what their places for references hold; the places for numbers are the heap's -/
abbrev zS : Type := List (Nat × Nat) × zH
def r32 (x : Int) : Prop := -2147483648 ≤ x ∧ x < 2147483648
def r64 (x : Int) : Prop := -9223372036854775808 ≤ x ∧ x < 9223372036854775808
def zok (v : zV) : Prop := match v with
  | .inl x => r32 x
  | .inr (.inl _) => True
  | .inr (.inr x) => r64 x
/-- a cell's address: null is 0, the world's own cells are 1 and on, what is below 0 lies outside the world -/
def zad (base : Nat) (r : Int) : Nat := if 0 < r then base + (r.toNat - 1) else (-r).toNat - 1
def zrf (base : Nat) (r : Int) : Value := if r = 0 then .null else .ref (zad base r)
def zopt (base : Nat) (r : Int) : Option Nat := if r = 0 then none else some (zad base r)
theorem zopt_rf (base : Nat) (r : Int) : va_rf (zopt base r) = zrf base r := by
  unfold zopt zrf
  by_cases h : r = 0 <;> simp [h, va_rf]
def zc (base : Nat) (v : zV) : Value := match v with
  | .inl x => .int (Int32.ofInt x)
  | .inr (.inl r) => zrf base r
  | .inr (.inr x) => .long (Int64.ofInt x)
def zcat (v : zV) : Nat := match v with
  | .inl _ => 1
  | .inr (.inl _) => 1
  | .inr (.inr _) => 2
theorem zc_cat (base : Nat) (v : zV) : (zc base v).category = zcat v := by
  rcases v with x | r | x
  · rfl
  · show (zrf base r).category = 1
    unfold zrf
    by_cases h : r = 0 <;> simp [h, Value.category]
  · rfl
/-- the shape of a cell: its kind (below 100: a class; 100 int[], 101 boolean[], 102 Now[], 103 Image[]), and its size -/
def zsh (sh : zS) (r : Int) : Option (Nat × Nat) := if 0 < r then sh.1[r.toNat - 1]? else none
abbrev zcl : List vw_C := [(RX0, TX0, 3), (RX2, TX2, 3), (RX3, TX3, 2), (RX4, TX4, 13), (RX5, TX5, 3), (RX6, TX6, 6), (RX7, TX7, 7), (RX8, TX8, 4), (RX9, TX9, 10), (RX10, TX10, 34)]
def zty (ci k : Nat) : FieldType := match ci with
  | 0 => tyX0 k
  | 1 => tyX2 k
  | 2 => tyX3 k
  | 3 => tyX4 k
  | 4 => tyX5 k
  | 5 => tyX6 k
  | 6 => tyX7 k
  | 7 => tyX8 k
  | 8 => tyX9 k
  | 9 => tyX10 k
  | _ => .int
def zfv (base : Nat) (ty : FieldType) (x y : Int) : Value := match ty with
  | .int => .int (Int32.ofInt x)
  | .boolean => .int (Int32.ofInt x)
  | .long => .long (Int64.ofInt x)
  | _ => zrf base y
abbrev zI : Type := Nat → ClassId
def zce (base : Nat) (I : zI) (kd : Nat × Nat) (f g : Int → Int) : va_E :=
  if kd.1 = 100 then .inl (I 0, kd.2, .inl (fun j => Int32.ofInt (f j)))
  else if kd.1 = 101 then .inl (I 1, kd.2, .inl (fun j => Int32.ofInt (f j)))
  else if kd.1 = 102 then .inl (I 2, kd.2, .inr (.inr (.inr (.inr (fun j => zopt base (g j))))))
  else if kd.1 = 103 then .inl (I 3, kd.2, .inr (.inr (.inr (.inr (fun j => zopt base (g j))))))
  else .inr (kd.1, (List.range kd.2).map (fun k => zfv base (zty kd.1 k) (f k) (g k)))
def zws (base : Nat) (I : zI) (sh : zS) (h : zH) : va_W := (List.range sh.1.length).map (fun i => (base + i, zce base I (sh.1.getD i (0, 0)) (h ((i : Int) + 1)) (sh.2 ((i : Int) + 1))))
def ztot (sh : zS) : Nat := (sh.1.map (fun q => q.2)).sum
theorem zws_at {base : Nat} {I : zI} {sh : zS} {h : zH} {i : Nat} {kd : Nat × Nat} (hi : sh.1[i]? = some kd) : (zws base I sh h)[i]? = some (base + i, zce base I kd (h ((i : Int) + 1)) (sh.2 ((i : Int) + 1))) := by
  have hl := (List.getElem?_eq_some_iff.mp hi).1
  simp [zws, List.getElem?_map, List.getElem?_range hl, List.getD, hi]
theorem zws_len (base : Nat) (I : zI) (sh : zS) (h : zH) : (zws base I sh h).length = sh.1.length := by simp [zws]
theorem zws_get {base : Nat} {I : zI} {sh : zS} {h : zH} {i : Nat} {q : Nat × va_E} (hq : (zws base I sh h)[i]? = some q) : i < sh.1.length ∧ q.1 = base + i := by
  have hl := (List.getElem?_eq_some_iff.mp hq).1
  rw [zws_len] at hl
  refine ⟨hl, ?_⟩
  simp [zws, List.getElem?_map, List.getElem?_range hl] at hq
  rw [← hq]
theorem zD (base : Nat) (I : zI) (sh : zS) (h : zH) : va_D (fun q => base ≤ q) (zws base I sh h) := by
  refine ⟨fun i j p q hp hq e => ?_, fun k q hq => ?_⟩
  · have h1 := zws_get hp
    have h2 := zws_get hq
    omega
  · have h1 := zws_get hq
    show base ≤ q.1
    omega
/-- the number of a cell, and its place in the world -/
theorem zsh_spec {sh : zS} {r : Int} {kd : Nat × Nat} (h : zsh sh r = some kd) : 0 < r ∧ sh.1[r.toNat - 1]? = some kd ∧ (((r.toNat - 1 : Nat) : Int) + 1 = r) := by
  unfold zsh at h
  by_cases h0 : 0 < r
  · rw [if_pos h0] at h
    exact ⟨h0, h, by omega⟩
  · rw [if_neg h0] at h
    cases h
theorem zrf_pos {base : Nat} {r : Int} (h : 0 < r) : zrf base r = .ref (base + (r.toNat - 1)) := by
  unfold zrf zad
  rw [if_neg (by omega), if_pos h]
theorem zrf_ne {base : Nat} {r : Int} (h : r ≠ 0) : zrf base r = .ref (zad base r) := by
  unfold zrf
  rw [if_neg h]
theorem zws_sh {base : Nat} {I : zI} {sh : zS} {h : zH} {r : Int} {kd : Nat × Nat} (hs : zsh sh r = some kd) : (zws base I sh h)[r.toNat - 1]? = some (base + (r.toNat - 1), zce base I kd (h r) (sh.2 r)) := by
  obtain ⟨h0, h1, h2⟩ := zsh_spec hs
  have := zws_at (base := base) (I := I) (h := h) h1
  rw [h2] at this
  exact this
/-- the heap behind a write -/
def zup (h : zH) (r k v : Int) : zH := fun a b => if a = r ∧ b = k then v else h a b
theorem zup_same (h : zH) (r k v : Int) : zup h r k v r k = v := by simp [zup]
theorem zup_ne {h : zH} {r k v a b : Int} (hn : ¬ (a = r ∧ b = k)) : zup h r k v a b = h a b := by simp [zup, hn]
theorem zws_set {base : Nat} {I : zI} {sh : zS} {h h' g' : zH} {r : Int} {kd : Nat × Nat} {e : va_E} (hs : zsh sh r = some kd) (he : e = zce base I kd (h' r) (g' r)) (ho : ∀ a, a ≠ r → h' a = h a) (hg : ∀ a, a ≠ r → g' a = sh.2 a) : (zws base I sh h).set (r.toNat - 1) (base + (r.toNat - 1), e) = zws base I (sh.1, g') h' := by
  obtain ⟨h0, h1, h2⟩ := zsh_spec hs
  have hl := (List.getElem?_eq_some_iff.mp h1).1
  have hs2 : zsh (sh.1, g') r = some kd := hs
  apply List.ext_getElem?
  intro i
  by_cases hi : i = r.toNat - 1
  · subst hi
    rw [List.getElem?_set_self (by rw [zws_len]; exact hl), zws_sh hs2, he]
  · rw [List.getElem?_set_ne (Ne.symm hi)]
    by_cases hlt : i < sh.1.length
    · have hk : sh.1[i]? = some sh.1[i] := List.getElem?_eq_getElem hlt
      rw [zws_at hk, zws_at (sh := (sh.1, g')) hk, ho ((i : Int) + 1) (by omega)]
      show _ = some (base + i, zce base I _ _ (g' ((i : Int) + 1)))
      rw [hg ((i : Int) + 1) (by omega)]
    · rw [List.getElem?_eq_none (by rw [zws_len]; omega), List.getElem?_eq_none (by rw [zws_len]; simp only; omega)]
theorem zws_push {base : Nat} {I : zI} {sh : zS} {h h' g' : zH} {kd : Nat × Nat} {e : va_E} (he : e = zce base I kd (h' ((sh.1.length : Int) + 1)) (g' ((sh.1.length : Int) + 1))) (ho : ∀ a : Int, a ≤ sh.1.length → h' a = h a) (hg : ∀ a : Int, a ≤ sh.1.length → g' a = sh.2 a) : zws base I sh h ++ [(base + sh.1.length, e)] = zws base I (sh.1 ++ [kd], g') h' := by
  apply List.ext_getElem?
  intro i
  by_cases hlt : i < sh.1.length
  · have hk : sh.1[i]? = some sh.1[i] := List.getElem?_eq_getElem hlt
    have hk2 : (sh.1 ++ [kd])[i]? = some sh.1[i] := by rw [List.getElem?_append_left hlt]; exact hk
    rw [List.getElem?_append_left (by rw [zws_len]; exact hlt), zws_at hk, zws_at (sh := (sh.1 ++ [kd], g')) hk2, ho ((i : Int) + 1) (by omega)]
    show _ = some (base + i, zce base I _ _ (g' ((i : Int) + 1)))
    rw [hg ((i : Int) + 1) (by omega)]
  · by_cases hi : i = sh.1.length
    · subst hi
      have hk2 : (sh.1 ++ [kd])[sh.1.length]? = some kd := by simp
      rw [zws_at (sh := (sh.1 ++ [kd], g')) hk2, List.getElem?_append_right (by rw [zws_len]; exact Nat.le_refl _), zws_len, Nat.sub_self, he]
      rfl
    · rw [List.getElem?_eq_none (by rw [List.length_append, zws_len]; simp; omega), List.getElem?_eq_none (by rw [zws_len]; simp only [List.length_append]; simp; omega)]
/-- the heap's part -/
def zP (base : Nat) (D : va_G) (I : zI) (sh : zS) (h : zH) (H : Heap) : Prop := va_P D zcl (zws base I sh h) H ∧ ∀ r k, r32 (h r k)
abbrev ztys (I : zI) : List (ClassId × FieldType) := [(I 0, .int), (I 1, .boolean), (I 2, .object RX6), (I 3, .object RX5)]
abbrev zNest : List (String × Nat × MethodName × String) := [(RX9, 9, yX7_init, RX9), (RX9, 18, yX4_init, RX9), (RX9, 28, yX6_init, RX9), (RX3, 17, yX6_init, RX9), (RX9, 48, yX2_init, RX9), (RX9, 55, yX8_init, RX9), (RX9, 62, yX0_init, RX9), (RX9, 67, yX5_init, RX9), (RX5, 9, yX6_init, RX9), (RX6, 30, yX9_copyRow, RX9), (RX0, 35, yX9_has, RX9)]
/-- the tables' part -/
def zK (D : va_G) (I : zI) (U : State) : Prop := va_K D zcl (ztys I) U ∧ (∀ q ∈ zNest, va_Nw (.methodLinkNest q.1 q.2.1 q.2.2.1 q.2.2.2) U) ∧ va_AO RX6 U ∧ va_AO RX5 U
theorem zK.warm {D : va_G} {I : zI} {s U : State} (hW : s.WarmedH U.vm) (h : zK D I s) : zK D I U := ⟨va_K.moved hW.alike h.1, fun q hq => va_Nw.warmM hW (h.2.1 q hq), h.2.2.1.moved hW.alike, h.2.2.2.moved hW.alike⟩
theorem zK.same {D : va_G} {I : zI} {u U : State} (h : u.vm = U.vm) (hk : zK D I u) : zK D I U := ⟨va_K.moved (h ▸ Vm.Alike.refl _) hk.1, fun q hq => va_Nw.same rfl h (hk.2.1 q hq), hk.2.2.1.moved (h ▸ Vm.Alike.refl _), hk.2.2.2.moved (h ▸ Vm.Alike.refl _)⟩
/-- a method: its name, bytes, locals, answer; its frames, locals' words, cells, slots -/
abbrev zMd : Type := MethodName × ByteArray × Nat × Option FieldType × Nat × Nat × Nat × Nat
abbrev zy (M : zMd) : MethodName := M.1
abbrev zb (M : zMd) : ByteArray := M.2.1
abbrev znl (M : zMd) : Nat := M.2.2.1
abbrev zrt (M : zMd) : Option FieldType := M.2.2.2.1
abbrev zfr (M : zMd) : Nat := M.2.2.2.2.1
abbrev zlo (M : zMd) : Nat := M.2.2.2.2.2.1
abbrev zmc (M : zMd) : Nat := M.2.2.2.2.2.2.1
abbrev zms (M : zMd) : Nat := M.2.2.2.2.2.2.2
abbrev zQt : Type := Option zV → zS → zH → Prop
def zokO (v : Option zV) : Prop := match v with
  | none => True
  | some v => zok v
def zQc (base : Nat) (D : va_G) (I : zI) (k1 n1 : Nat) (Q : zQt) : Array Value → State → Outcome → State → Prop := fun _ st oc t =>
  (∃ (v : Option zV) (sh : zS) (h : zH), oc = .returned (v.map (zc base)) ∧ zokO v ∧ Q v sh h ∧ zP base D I sh h t.heap ∧ sh.1.length = k1 ∧ ztot sh = n1) ∧ va_F (fun q => base ≤ q) st t
/-- a contract: from the arguments and the heap, whatever the world's base is -/
def zC (l : Launch) (M : zMd) (as : List zV) (sh : zS) (h : zH) (Q : zQt) : Prop :=
  ∀ (base : Nat) (D : va_G) (I : zI), Met l (zy M) (.code (zy M) (zb M) (znl M) (zrt M) :: zT) { frames := zfr M, cells := zmc M, slots := zms M, locals := zlo M }
    (va_Pc (as.map (zc base)) (fun U => (∀ v ∈ as, zok v) ∧ U.heap.size = base + sh.1.length ∧ zP base D I sh h U.heap ∧ zK D I U)) (zQc base D I (sh.1.length + zmc M) (ztot sh + zms M) Q) (zmc M) (zms M) (fun q => base ≤ q)
/-- the locals -/
def zL (base nL : Nat) (lsr : Array Slot) (ls : List (Option zV)) : Prop := ls.length = nL ∧ lsr.size = nL ∧ lv_wf lsr ∧ ∀ (i : Nat) (v : zV), ls[i]? = some (some v) → lsr[i]? = some (.val (zc base v))
def zrti (v : Option zV) : Instr := match v with
  | none => .return_
  | some (.inl _) => .ireturn
  | some (.inr (.inl _)) => .areturn
  | some (.inr (.inr _)) => .lreturn
def zfit (rt : Option FieldType) (v : Option zV) : Prop := match rt, v with
  | none, none => True
  | some .int, some (.inl _) => True
  | some .boolean, some (.inl x) => x = 0 ∨ x = 1
  | some .long, some (.inr (.inr _)) => True
  | _, _ => False
section ZW
variable (X : State → Nat → Prop) (p : Program) (l : Launch) (e : Env) (R : Room) (s : State) (m : MethodId) (args : Array Value) (below : List Frame) (meth : Method) (c : Code) (Z : State → Prop) (base : Nat) (D : va_G) (I : zI) (k0 n0 : Nat)
/-- where a method stands: the machine, its code, the tables' words, the room, and how it may end -/
def zE (M : zMd) (B1 B2 : Nat) (Q : zQt) : Prop :=
  (p.tables.exec = Jvm.exec ∧ c.code = zb M ∧ c.maxLocals = znl M ∧ s.vm.findClass (zy M).cls = some m.cls ∧ ∀ w ∈ zT, w.before args s = true) ∧ zK D I s ∧ (zfr M ≤ R.frames ∧ zlo M ≤ R.locals) ∧ (R.cells + k0 = B1 ∧ R.slots + n0 = B2) ∧ s.heap.size = base + k0 ∧ (meth.name = (zy M).name ∧ X s base) ∧
  ∀ (pc : Nat) (lsr : Array Slot) (H : Heap) (locs : List Loc) (cells slots : Nat) (v : Option zV) (sh : zS) (h : zH), decode (zb M) pc = .ok (zrti v, 1) → zfit (zrt M) v → zokO v → Q v sh h → sh.1.length = B1 → ztot sh = B2 → cells + k0 = sh.1.length → slots + n0 = ztot sh → zP base D I sh h H → va_S (fun q => base ≤ q) s.heap H locs → W p l e R s m args below meth c H locs cells slots Z (F0 m pc lsr (v.map (zc base)).toList)
end ZW
/-- THE JUDGEMENT: method M, at pc with these locals, this stack, this heap, ends with Q, wherever it was called -/
def zW (X : State → Nat → Prop) (l : Launch) (M : zMd) (B1 B2 : Nat) (Q : zQt) (pc : Nat) (ls : List (Option zV)) (st : List zV) (sh : zS) (h : zH) : Prop :=
  ∀ (p : Program) (e : Env) (R : Room) (s : State) (m : MethodId) (args : Array Value) (below : List Frame) (meth : Method) (c : Code) (Z : State → Prop) (base : Nat) (D : va_G) (I : zI) (k0 n0 : Nat), zE X p l e R s m args below meth c Z base D I k0 n0 M B1 B2 Q →
    ∀ (H : Heap) (locs : List Loc) (cells slots : Nat) (lsr : Array Slot), cells + k0 = sh.1.length → slots + n0 = ztot sh → zP base D I sh h H → va_S (fun q => base ≤ q) s.heap H locs → zL base (znl M) lsr ls → (∀ v ∈ st, zok v) → (∀ v, some v ∈ ls → zok v) →
      W p l e R s m args below meth c H locs cells slots Z (F0 m pc lsr (st.map (zc base)))
abbrev zX0 : State → Nat → Prop := fun _ _ => True
