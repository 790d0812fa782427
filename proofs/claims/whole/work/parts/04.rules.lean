/-! THE WALK'S OWN JUDGEMENT. GG X D Q n ws lv pc st o: whenever the pure computation o comes to a result, the machine, at pc with locals lv, stack st and the cells ws, comes to an end that Q says of that result. Guards of o (gu: an index in range, gd: a divisor that isn't 0) are just what the machine would throw at. -/
def gu {ρ : Type} (i : Int32) (N : Nat) (o : Option ρ) : Option ρ := if i < 0 ∨ N ≤ i.toNatClampNeg then none else o
def gd {ρ : Type} (y : Int32) (o : Option ρ) : Option ρ := if y = 0 then none else o
def gdL {ρ : Type} (y : Int64) (o : Option ρ) : Option ρ := if y = 0 then none else o
def gz {ρ : Type} (v : Int32) (o : Option ρ) : Option ρ := if v = 0 ∨ v = 1 then o else none
def bi {α ρ : Type} (e : α) (k : α → Option ρ) : Option ρ := k e
def jn {α ρ : Type} (A : Option α) (k : α → Option ρ) : Option ρ := A.bind k
def tyL (T : Nat → ClassId) : List (ClassId × FieldType) := [(T 0, .int), (T 1, .boolean), (T 2, .object RX0), (T 3, .object RX6)]
def tens : Nat → Int32 := fun j => match j with
  | 0 => 1
  | 1 => 10
  | 2 => 100
  | 3 => 1000
  | 4 => 10000
  | 5 => 100000
  | 6 => 1000000
  | 7 => 10000000
  | 8 => 100000000
  | _ => 1000000000
def tensV : Nat → Value := fun j => .int (tens j)
def nestQ : List (String × Nat × MethodName × String) := [(RX2, 36, yX8_isWithin, "CradleHour"), (RX0, 47, yX8_isHeir, "CradleHour"), (RX0, 43, yX8_isPlace, "CradleHour"), (RX5, 13, yX8_isWithin, "CradleHour"), (RX4, 22, yX8_isBeat, "CradleHour"), (RX6, 52, yX8_isBeat, "CradleHour")]
/-- what stays outside every world: the one static row, the links among nest mates, the classes of arrays of our own objects -/
def SE (A : Nat → Prop) (U : State) (H : Heap) : Prop := (∃ t : Nat, va_Z RX5 "TENS" "[I" (.ref t) A U H ∧ va_T .int t 10 tensV A U H) ∧ va_AO RX0 U ∧ va_AO RX6 U ∧ ∀ q ∈ nestQ, va_Nw (.methodLinkNest q.1 q.2.1 q.2.2.1 q.2.2.2) U
theorem SE.warm {A : Nat → Prop} {s U : State} {H : Heap} (hW : s.WarmedH U.vm) (h : SE A s H) : SE A U H := by
  obtain ⟨⟨t, h1, h2⟩, h3, h4, h5⟩ := h
  exact ⟨⟨t, va_Z.moved hW.alike h1, va_T.moved hW.alike h2⟩, va_AO.moved hW.alike h3, va_AO.moved hW.alike h4, fun q hq => va_Nw.warmM hW (h5 q hq)⟩
theorem SE.kept {A : Nat → Prop} {U : State} {H H1 : Heap} (h : SE A U H) (hq : ∀ a : Nat, a < H.size → ¬ A a → H1[a]? = H[a]?) : SE A U H1 := by
  obtain ⟨⟨t, h1, h2⟩, h3⟩ := h
  exact ⟨⟨t, h1.kept hq, h2.kept hq⟩, h3⟩
theorem SE.narrow {A B : Nat → Prop} {U : State} {H : Heap} (h : SE A U H) (hAB : ∀ q, B q → A q) : SE B U H := by
  obtain ⟨⟨t, h1, h2⟩, h3⟩ := h
  exact ⟨⟨t, h1.narrow hAB, h2.narrow hAB⟩, h3⟩
theorem SE.calling {A : Nat → Prop} {U : State} {g : JFrame} {mk : MethodId} {a : Array Value} (h : SE A U U.heap) : SE A (U.calling g mk a) (U.calling g mk a).heap := by
  obtain ⟨⟨t, h1, h2⟩, h3, h4, h5⟩ := h
  exact ⟨⟨t, va_Z.moved (u := U) (U := U.calling g mk a) (Vm.Alike.refl U.vm) h1, va_T.moved (u := U) (U := U.calling g mk a) (Vm.Alike.refl U.vm) h2⟩, va_AO.moved (u := U) (U := U.calling g mk a) (Vm.Alike.refl U.vm) h3, va_AO.moved (u := U) (U := U.calling g mk a) (Vm.Alike.refl U.vm) h4, fun q hq => va_Nw.same rfl (rfl : U.vm = (U.calling g mk a).vm) (h5 q hq)⟩
abbrev KX : Type := Program × Launch × Env × Room × State × MethodId × Array Value × List Frame × Method × Code × (Nat → Prop) × Nat
def kxL (X : KX) : Nat := match X with
  | (_, _, _, _, _, _, _, _, _, _, _, nL) => nL
def kxM (X : KX) : Method := match X with
  | (_, _, _, _, _, _, _, _, meth, _, _, _) => meth
def Cx (X : KX) (D : va_G) (T : Nat → ClassId) (cc : ByteArray) (own : String) (rm : Room) : Prop := match X with
  | (p, _, _, R, s, m, args, _, meth, c, A, nL) => p.tables.exec = Jvm.exec ∧ c.code = cc ∧ c.maxLocals = nL ∧ s.vm.findClass own = some m.cls ∧ (∀ w ∈ tb, w.before args s = true) ∧ va_K D vwCl (tyL T) s ∧ (∀ q, s.heap.size ≤ q → A q) ∧ meth.locks = false ∧ R = rm ∧ SE A s s.heap
def GG {ρ : Type} (X : KX) (D : va_G) (Q : ρ → State → Prop) (n : Nat × Nat) (ws : va_W) (lv : List (Nat × Value)) (pc : Nat) (st : List Value) (o : Option ρ) : Prop := match X with
  | (p, l, e, R, s, m, args, below, meth, c, A, nL) => ∀ res, o = some res → ∀ (H : Heap) (locs : List Loc) (ls : Array Slot), va_P D vwCl ws H → va_D A ws → va_S A s.heap H locs → lv_has ls nL lv → W p l e R s m args below meth c H locs n.1 n.2 (Q res) (F0 m pc ls st)
section GGR
variable {ρ : Type} {X : KX} {D : va_G} {T : Nat → ClassId} {Q : ρ → State → Prop} {n : Nat × Nat} {ws ws' : va_W} {lv lv' : List (Nat × Value)} {pc : Nat} {st : List Value} {o o1 o2 : Option ρ} {cc : ByteArray} {own : String} {rm : Room}
theorem gg_iconst (C : Cx X D T cc own rm) {z : Int} {v : Int32} (hd : decode cc pc = .ok (.iconst z, 1)) (hv : Int32.ofInt z = v) (kk : GG X D Q n ws lv (pc + 1) (.int v :: st) o) : GG X D Q n ws lv pc (st) o := by
  obtain ⟨p, l, e, R, s, m, args, below, meth, c, A, nL⟩ := X
  obtain ⟨hx, hb, hml, hown, hts, hK, hA, hlk, hR, hSE⟩ := C
  intro res h H locs ls hP hD hS hL
  exact lv_iconst hx hb hd hv (kk res h H locs ls hP hD hS hL)
theorem gg_bipush (C : Cx X D T cc own rm) {z : Int} {v : Int32} (hd : decode cc pc = .ok (.bipush z, 2)) (hv : (Int8.ofInt z).toInt32 = v) (kk : GG X D Q n ws lv (pc + 2) (.int v :: st) o) : GG X D Q n ws lv pc (st) o := by
  obtain ⟨p, l, e, R, s, m, args, below, meth, c, A, nL⟩ := X
  obtain ⟨hx, hb, hml, hown, hts, hK, hA, hlk, hR, hSE⟩ := C
  intro res h H locs ls hP hD hS hL
  exact lv_bipush hx hb hd hv (kk res h H locs ls hP hD hS hL)
theorem gg_sipush (C : Cx X D T cc own rm) {z : Int} {v : Int32} (hd : decode cc pc = .ok (.sipush z, 3)) (hv : (Int16.ofInt z).toInt32 = v) (kk : GG X D Q n ws lv (pc + 3) (.int v :: st) o) : GG X D Q n ws lv pc (st) o := by
  obtain ⟨p, l, e, R, s, m, args, below, meth, c, A, nL⟩ := X
  obtain ⟨hx, hb, hml, hown, hts, hK, hA, hlk, hR, hSE⟩ := C
  intro res h H locs ls hP hD hS hL
  exact lv_sipush hx hb hd hv (kk res h H locs ls hP hD hS hL)
theorem gg_lconst (C : Cx X D T cc own rm) {z : Fin 2} {v : Int64} (hd : decode cc pc = .ok (.lconst z, 1)) (hv : Int64.ofNat (z : Nat) = v) (kk : GG X D Q n ws lv (pc + 1) (.long v :: st) o) : GG X D Q n ws lv pc (st) o := by
  obtain ⟨p, l, e, R, s, m, args, below, meth, c, A, nL⟩ := X
  obtain ⟨hx, hb, hml, hown, hts, hK, hA, hlk, hR, hSE⟩ := C
  intro res h H locs ls hP hD hS hL
  exact lv_lconst hx hb hd hv (kk res h H locs ls hP hD hS hL)
theorem gg_iadd (C : Cx X D T cc own rm) {x y : Int32} (hd : decode cc pc = .ok (.iadd, 1))  (kk : GG X D Q n ws lv (pc + 1) (.int (x + y) :: st) o) : GG X D Q n ws lv pc (.int y :: .int x :: st) o := by
  obtain ⟨p, l, e, R, s, m, args, below, meth, c, A, nL⟩ := X
  obtain ⟨hx, hb, hml, hown, hts, hK, hA, hlk, hR, hSE⟩ := C
  intro res h H locs ls hP hD hS hL
  exact lv_iadd hx hb hd  (kk res h H locs ls hP hD hS hL)
theorem gg_isub (C : Cx X D T cc own rm) {x y : Int32} (hd : decode cc pc = .ok (.isub, 1))  (kk : GG X D Q n ws lv (pc + 1) (.int (x - y) :: st) o) : GG X D Q n ws lv pc (.int y :: .int x :: st) o := by
  obtain ⟨p, l, e, R, s, m, args, below, meth, c, A, nL⟩ := X
  obtain ⟨hx, hb, hml, hown, hts, hK, hA, hlk, hR, hSE⟩ := C
  intro res h H locs ls hP hD hS hL
  exact lv_isub hx hb hd  (kk res h H locs ls hP hD hS hL)
theorem gg_imul (C : Cx X D T cc own rm) {x y : Int32} (hd : decode cc pc = .ok (.imul, 1))  (kk : GG X D Q n ws lv (pc + 1) (.int (x * y) :: st) o) : GG X D Q n ws lv pc (.int y :: .int x :: st) o := by
  obtain ⟨p, l, e, R, s, m, args, below, meth, c, A, nL⟩ := X
  obtain ⟨hx, hb, hml, hown, hts, hK, hA, hlk, hR, hSE⟩ := C
  intro res h H locs ls hP hD hS hL
  exact lv_imul hx hb hd  (kk res h H locs ls hP hD hS hL)
theorem gg_iand (C : Cx X D T cc own rm) {x y : Int32} (hd : decode cc pc = .ok (.iand, 1))  (kk : GG X D Q n ws lv (pc + 1) (.int (x &&& y) :: st) o) : GG X D Q n ws lv pc (.int y :: .int x :: st) o := by
  obtain ⟨p, l, e, R, s, m, args, below, meth, c, A, nL⟩ := X
  obtain ⟨hx, hb, hml, hown, hts, hK, hA, hlk, hR, hSE⟩ := C
  intro res h H locs ls hP hD hS hL
  exact lv_iand hx hb hd  (kk res h H locs ls hP hD hS hL)
theorem gg_ior (C : Cx X D T cc own rm) {x y : Int32} (hd : decode cc pc = .ok (.ior, 1))  (kk : GG X D Q n ws lv (pc + 1) (.int (x ||| y) :: st) o) : GG X D Q n ws lv pc (.int y :: .int x :: st) o := by
  obtain ⟨p, l, e, R, s, m, args, below, meth, c, A, nL⟩ := X
  obtain ⟨hx, hb, hml, hown, hts, hK, hA, hlk, hR, hSE⟩ := C
  intro res h H locs ls hP hD hS hL
  exact lv_ior hx hb hd  (kk res h H locs ls hP hD hS hL)
theorem gg_ixor (C : Cx X D T cc own rm) {x y : Int32} (hd : decode cc pc = .ok (.ixor, 1))  (kk : GG X D Q n ws lv (pc + 1) (.int (x ^^^ y) :: st) o) : GG X D Q n ws lv pc (.int y :: .int x :: st) o := by
  obtain ⟨p, l, e, R, s, m, args, below, meth, c, A, nL⟩ := X
  obtain ⟨hx, hb, hml, hown, hts, hK, hA, hlk, hR, hSE⟩ := C
  intro res h H locs ls hP hD hS hL
  exact lv_ixor hx hb hd  (kk res h H locs ls hP hD hS hL)
theorem gg_ishl (C : Cx X D T cc own rm) {x y : Int32} (hd : decode cc pc = .ok (.ishl, 1))  (kk : GG X D Q n ws lv (pc + 1) (.int (x <<< (y &&& 31)) :: st) o) : GG X D Q n ws lv pc (.int y :: .int x :: st) o := by
  obtain ⟨p, l, e, R, s, m, args, below, meth, c, A, nL⟩ := X
  obtain ⟨hx, hb, hml, hown, hts, hK, hA, hlk, hR, hSE⟩ := C
  intro res h H locs ls hP hD hS hL
  exact lv_ishl hx hb hd  (kk res h H locs ls hP hD hS hL)
theorem gg_ishr (C : Cx X D T cc own rm) {x y : Int32} (hd : decode cc pc = .ok (.ishr, 1))  (kk : GG X D Q n ws lv (pc + 1) (.int (x >>> (y &&& 31)) :: st) o) : GG X D Q n ws lv pc (.int y :: .int x :: st) o := by
  obtain ⟨p, l, e, R, s, m, args, below, meth, c, A, nL⟩ := X
  obtain ⟨hx, hb, hml, hown, hts, hK, hA, hlk, hR, hSE⟩ := C
  intro res h H locs ls hP hD hS hL
  exact lv_ishr hx hb hd  (kk res h H locs ls hP hD hS hL)
theorem gg_ineg (C : Cx X D T cc own rm) {x : Int32} (hd : decode cc pc = .ok (.ineg, 1))  (kk : GG X D Q n ws lv (pc + 1) (.int (-x) :: st) o) : GG X D Q n ws lv pc (.int x :: st) o := by
  obtain ⟨p, l, e, R, s, m, args, below, meth, c, A, nL⟩ := X
  obtain ⟨hx, hb, hml, hown, hts, hK, hA, hlk, hR, hSE⟩ := C
  intro res h H locs ls hP hD hS hL
  exact lv_ineg hx hb hd  (kk res h H locs ls hP hD hS hL)
theorem gg_ladd (C : Cx X D T cc own rm) {x y : Int64} (hd : decode cc pc = .ok (.ladd, 1))  (kk : GG X D Q n ws lv (pc + 1) (.long (x + y) :: st) o) : GG X D Q n ws lv pc (.long y :: .long x :: st) o := by
  obtain ⟨p, l, e, R, s, m, args, below, meth, c, A, nL⟩ := X
  obtain ⟨hx, hb, hml, hown, hts, hK, hA, hlk, hR, hSE⟩ := C
  intro res h H locs ls hP hD hS hL
  exact lv_ladd hx hb hd  (kk res h H locs ls hP hD hS hL)
theorem gg_lsub (C : Cx X D T cc own rm) {x y : Int64} (hd : decode cc pc = .ok (.lsub, 1))  (kk : GG X D Q n ws lv (pc + 1) (.long (x - y) :: st) o) : GG X D Q n ws lv pc (.long y :: .long x :: st) o := by
  obtain ⟨p, l, e, R, s, m, args, below, meth, c, A, nL⟩ := X
  obtain ⟨hx, hb, hml, hown, hts, hK, hA, hlk, hR, hSE⟩ := C
  intro res h H locs ls hP hD hS hL
  exact lv_lsub hx hb hd  (kk res h H locs ls hP hD hS hL)
theorem gg_lmul (C : Cx X D T cc own rm) {x y : Int64} (hd : decode cc pc = .ok (.lmul, 1))  (kk : GG X D Q n ws lv (pc + 1) (.long (x * y) :: st) o) : GG X D Q n ws lv pc (.long y :: .long x :: st) o := by
  obtain ⟨p, l, e, R, s, m, args, below, meth, c, A, nL⟩ := X
  obtain ⟨hx, hb, hml, hown, hts, hK, hA, hlk, hR, hSE⟩ := C
  intro res h H locs ls hP hD hS hL
  exact lv_lmul hx hb hd  (kk res h H locs ls hP hD hS hL)
theorem gg_i2l (C : Cx X D T cc own rm) {x : Int32} (hd : decode cc pc = .ok (.i2l, 1))  (kk : GG X D Q n ws lv (pc + 1) (.long x.toInt64 :: st) o) : GG X D Q n ws lv pc (.int x :: st) o := by
  obtain ⟨p, l, e, R, s, m, args, below, meth, c, A, nL⟩ := X
  obtain ⟨hx, hb, hml, hown, hts, hK, hA, hlk, hR, hSE⟩ := C
  intro res h H locs ls hP hD hS hL
  exact lv_i2l hx hb hd rfl (kk res h H locs ls hP hD hS hL)
theorem gg_l2i (C : Cx X D T cc own rm) {x : Int64} (hd : decode cc pc = .ok (.l2i, 1))  (kk : GG X D Q n ws lv (pc + 1) (.int x.toInt32 :: st) o) : GG X D Q n ws lv pc (.long x :: st) o := by
  obtain ⟨p, l, e, R, s, m, args, below, meth, c, A, nL⟩ := X
  obtain ⟨hx, hb, hml, hown, hts, hK, hA, hlk, hR, hSE⟩ := C
  intro res h H locs ls hP hD hS hL
  exact lv_l2i hx hb hd rfl (kk res h H locs ls hP hD hS hL)
theorem gg_lcmp (C : Cx X D T cc own rm) {x y : Int64} (hd : decode cc pc = .ok (.lcmp, 1))  (kk : GG X D Q n ws lv (pc + 1) (.int (lg_cmp x y) :: st) o) : GG X D Q n ws lv pc (.long y :: .long x :: st) o := by
  obtain ⟨p, l, e, R, s, m, args, below, meth, c, A, nL⟩ := X
  obtain ⟨hx, hb, hml, hown, hts, hK, hA, hlk, hR, hSE⟩ := C
  intro res h H locs ls hP hD hS hL
  exact W.lcmp hx hb hd  (kk res h H locs ls hP hD hS hL)
theorem gg_idivK (C : Cx X D T cc own rm) {x y : Int32} (hd : decode cc pc = .ok (.idiv, 1)) (hne : ¬ y = 0) (kk : GG X D Q n ws lv (pc + 1) (.int (x / y) :: st) o) : GG X D Q n ws lv pc (.int y :: .int x :: st) o := by
  obtain ⟨p, l, e, R, s, m, args, below, meth, c, A, nL⟩ := X
  obtain ⟨hx, hb, hml, hown, hts, hK, hA, hlk, hR, hSE⟩ := C
  intro res h H locs ls hP hD hS hL
  exact lv_idiv hx hb hd hne (kk res h H locs ls hP hD hS hL)
theorem gg_iremK (C : Cx X D T cc own rm) {x y : Int32} (hd : decode cc pc = .ok (.irem, 1)) (hne : ¬ y = 0) (kk : GG X D Q n ws lv (pc + 1) (.int (x - x / y * y) :: st) o) : GG X D Q n ws lv pc (.int y :: .int x :: st) o := by
  obtain ⟨p, l, e, R, s, m, args, below, meth, c, A, nL⟩ := X
  obtain ⟨hx, hb, hml, hown, hts, hK, hA, hlk, hR, hSE⟩ := C
  intro res h H locs ls hP hD hS hL
  exact lv_irem hx hb hd hne (kk res h H locs ls hP hD hS hL)
theorem gg_ldivK (C : Cx X D T cc own rm) {x y : Int64} (hd : decode cc pc = .ok (.ldiv, 1)) (hne : ¬ y = 0) (kk : GG X D Q n ws lv (pc + 1) (.long (x / y) :: st) o) : GG X D Q n ws lv pc (.long y :: .long x :: st) o := by
  obtain ⟨p, l, e, R, s, m, args, below, meth, c, A, nL⟩ := X
  obtain ⟨hx, hb, hml, hown, hts, hK, hA, hlk, hR, hSE⟩ := C
  intro res h H locs ls hP hD hS hL
  exact lv_ldiv hx hb hd hne (kk res h H locs ls hP hD hS hL)
theorem gg_lremK (C : Cx X D T cc own rm) {x y : Int64} (hd : decode cc pc = .ok (.lrem, 1)) (hne : ¬ y = 0) (kk : GG X D Q n ws lv (pc + 1) (.long (x - x / y * y) :: st) o) : GG X D Q n ws lv pc (.long y :: .long x :: st) o := by
  obtain ⟨p, l, e, R, s, m, args, below, meth, c, A, nL⟩ := X
  obtain ⟨hx, hb, hml, hown, hts, hK, hA, hlk, hR, hSE⟩ := C
  intro res h H locs ls hP hD hS hL
  exact lv_lrem hx hb hd hne (kk res h H locs ls hP hD hS hL)
theorem gg_idiv (C : Cx X D T cc own rm) {x y : Int32} (hd : decode cc pc = .ok (.idiv, 1)) (kk : GG X D Q n ws lv (pc + 1) (.int (x / y) :: st) o) : GG X D Q n ws lv pc (.int y :: .int x :: st) (gd y o) := by
  obtain ⟨p, l, e, R, s, m, args, below, meth, c, A, nL⟩ := X
  obtain ⟨hx, hb, hml, hown, hts, hK, hA, hlk, hR, hSE⟩ := C
  intro res h H locs ls hP hD hS hL
  by_cases hne : y = 0
  · rw [gd, if_pos hne] at h; cases h
  · rw [gd, if_neg hne] at h
    exact lv_idiv hx hb hd hne (kk res h H locs ls hP hD hS hL)
theorem gg_irem (C : Cx X D T cc own rm) {x y : Int32} (hd : decode cc pc = .ok (.irem, 1)) (kk : GG X D Q n ws lv (pc + 1) (.int (x - x / y * y) :: st) o) : GG X D Q n ws lv pc (.int y :: .int x :: st) (gd y o) := by
  obtain ⟨p, l, e, R, s, m, args, below, meth, c, A, nL⟩ := X
  obtain ⟨hx, hb, hml, hown, hts, hK, hA, hlk, hR, hSE⟩ := C
  intro res h H locs ls hP hD hS hL
  by_cases hne : y = 0
  · rw [gd, if_pos hne] at h; cases h
  · rw [gd, if_neg hne] at h
    exact lv_irem hx hb hd hne (kk res h H locs ls hP hD hS hL)
theorem gg_ldiv (C : Cx X D T cc own rm) {x y : Int64} (hd : decode cc pc = .ok (.ldiv, 1)) (kk : GG X D Q n ws lv (pc + 1) (.long (x / y) :: st) o) : GG X D Q n ws lv pc (.long y :: .long x :: st) (gdL y o) := by
  obtain ⟨p, l, e, R, s, m, args, below, meth, c, A, nL⟩ := X
  obtain ⟨hx, hb, hml, hown, hts, hK, hA, hlk, hR, hSE⟩ := C
  intro res h H locs ls hP hD hS hL
  by_cases hne : y = 0
  · rw [gdL, if_pos hne] at h; cases h
  · rw [gdL, if_neg hne] at h
    exact lv_ldiv hx hb hd hne (kk res h H locs ls hP hD hS hL)
theorem gg_lrem (C : Cx X D T cc own rm) {x y : Int64} (hd : decode cc pc = .ok (.lrem, 1)) (kk : GG X D Q n ws lv (pc + 1) (.long (x - x / y * y) :: st) o) : GG X D Q n ws lv pc (.long y :: .long x :: st) (gdL y o) := by
  obtain ⟨p, l, e, R, s, m, args, below, meth, c, A, nL⟩ := X
  obtain ⟨hx, hb, hml, hown, hts, hK, hA, hlk, hR, hSE⟩ := C
  intro res h H locs ls hP hD hS hL
  by_cases hne : y = 0
  · rw [gdL, if_pos hne] at h; cases h
  · rw [gdL, if_neg hne] at h
    exact lv_lrem hx hb hd hne (kk res h H locs ls hP hD hS hL)
theorem gg_dup (C : Cx X D T cc own rm) {va : Value} (hd : decode cc pc = .ok (.dup, 1)) (hva : va.category = 1) (kk : GG X D Q n ws lv (pc + 1) (va :: va :: st) o) : GG X D Q n ws lv pc (va :: st) o := by
  obtain ⟨p, l, e, R, s, m, args, below, meth, c, A, nL⟩ := X
  obtain ⟨hx, hb, hml, hown, hts, hK, hA, hlk, hR, hSE⟩ := C
  intro res h H locs ls hP hD hS hL
  exact lv_dup hx hb hd hva (kk res h H locs ls hP hD hS hL)
theorem gg_pop (C : Cx X D T cc own rm) {va : Value} (hd : decode cc pc = .ok (.pop, 1)) (hva : va.category = 1) (kk : GG X D Q n ws lv (pc + 1) (st) o) : GG X D Q n ws lv pc (va :: st) o := by
  obtain ⟨p, l, e, R, s, m, args, below, meth, c, A, nL⟩ := X
  obtain ⟨hx, hb, hml, hown, hts, hK, hA, hlk, hR, hSE⟩ := C
  intro res h H locs ls hP hD hS hL
  exact lv_pop hx hb hd hva (kk res h H locs ls hP hD hS hL)
theorem gg_dup_x1 (C : Cx X D T cc own rm) {va vb : Value} (hd : decode cc pc = .ok (.dup_x1, 1)) (hva : va.category = 1) (hvb : vb.category = 1) (kk : GG X D Q n ws lv (pc + 1) (va :: vb :: va :: st) o) : GG X D Q n ws lv pc (va :: vb :: st) o := by
  obtain ⟨p, l, e, R, s, m, args, below, meth, c, A, nL⟩ := X
  obtain ⟨hx, hb, hml, hown, hts, hK, hA, hlk, hR, hSE⟩ := C
  intro res h H locs ls hP hD hS hL
  exact lv_dup_x1 hx hb hd hva hvb (kk res h H locs ls hP hD hS hL)
theorem gg_dup_x2 (C : Cx X D T cc own rm) {va vb vd : Value} (hd : decode cc pc = .ok (.dup_x2, 1)) (hva : va.category = 1) (hvb : vb.category = 1) (hvd : vd.category = 1) (kk : GG X D Q n ws lv (pc + 1) (va :: vb :: vd :: va :: st) o) : GG X D Q n ws lv pc (va :: vb :: vd :: st) o := by
  obtain ⟨p, l, e, R, s, m, args, below, meth, c, A, nL⟩ := X
  obtain ⟨hx, hb, hml, hown, hts, hK, hA, hlk, hR, hSE⟩ := C
  intro res h H locs ls hP hD hS hL
  exact lv_dup_x2 hx hb hd hva hvb hvd (kk res h H locs ls hP hD hS hL)
theorem gg_dup2 (C : Cx X D T cc own rm) {va vb : Value} (hd : decode cc pc = .ok (.dup2, 1)) (hva : va.category = 1) (hvb : vb.category = 1) (kk : GG X D Q n ws lv (pc + 1) (va :: vb :: va :: vb :: st) o) : GG X D Q n ws lv pc (va :: vb :: st) o := by
  obtain ⟨p, l, e, R, s, m, args, below, meth, c, A, nL⟩ := X
  obtain ⟨hx, hb, hml, hown, hts, hK, hA, hlk, hR, hSE⟩ := C
  intro res h H locs ls hP hD hS hL
  exact lv_dup2_11 hx hb hd hva hvb (kk res h H locs ls hP hD hS hL)
theorem gg_iload_n (C : Cx X D T cc own rm) {k : Fin 4} {i : Nat} {v : Int32} (hd : decode cc pc = .ok (.iload_n k, 1)) (hi : (k : Nat) = i) (j : Nat) (hl : lv[j]? = some (i, .int v)) (kk : GG X D Q n ws lv (pc + 1) (.int v :: st) o) : GG X D Q n ws lv pc st o := by
  obtain ⟨p, l, e, R, s, m, args, below, meth, c, A, nL⟩ := X
  obtain ⟨hx, hb, hml, hown, hts, hK, hA, hlk, hR, hSE⟩ := C
  intro res h H locs ls hP hD hS hL
  exact lv_iload_n hx hb hd hi (lv_at hL j hl) (kk res h H locs ls hP hD hS hL)
theorem gg_iload (C : Cx X D T cc own rm) {i : Nat} {v : Int32} (hd : decode cc pc = .ok (.iload i, 2)) (j : Nat) (hl : lv[j]? = some (i, .int v)) (kk : GG X D Q n ws lv (pc + 2) (.int v :: st) o) : GG X D Q n ws lv pc st o := by
  obtain ⟨p, l, e, R, s, m, args, below, meth, c, A, nL⟩ := X
  obtain ⟨hx, hb, hml, hown, hts, hK, hA, hlk, hR, hSE⟩ := C
  intro res h H locs ls hP hD hS hL
  exact lv_iload hx hb hd (lv_at hL j hl) (kk res h H locs ls hP hD hS hL)
theorem gg_istore_n (C : Cx X D T cc own rm) {k : Fin 4} {i nn : Nat} {v : Int32} (hd : decode cc pc = .ok (.istore_n k, 1)) (hi : (k : Nat) = i) (hn : kxL X = nn) (hlt : i < nn) (hl : (i, Value.int v) :: lv.filter (fun q => !(q.1 == i) && !(q.1 + 1 == i && q.2.category == 2)) = lv') (kk : GG X D Q n ws lv' (pc + 1) st o) : GG X D Q n ws lv pc (.int v :: st) o := by
  obtain ⟨p, l, e, R, s, m, args, below, meth, c, A, nL⟩ := X
  obtain ⟨hx, hb, hml, hown, hts, hK, hA, hlk, hR, hSE⟩ := C
  intro res h H locs ls hP hD hS hL
  have hn : nL = nn := hn
  exact lv_istore_n hx hb hd hi hL (by rw [hn]; exact hlt) hl (fun ls' hL' => kk res h H locs ls' hP hD hS hL')
theorem gg_istore (C : Cx X D T cc own rm) {i nn : Nat} {v : Int32} (hd : decode cc pc = .ok (.istore i, 2)) (hn : kxL X = nn) (hlt : i < nn) (hl : (i, Value.int v) :: lv.filter (fun q => !(q.1 == i) && !(q.1 + 1 == i && q.2.category == 2)) = lv') (kk : GG X D Q n ws lv' (pc + 2) st o) : GG X D Q n ws lv pc (.int v :: st) o := by
  obtain ⟨p, l, e, R, s, m, args, below, meth, c, A, nL⟩ := X
  obtain ⟨hx, hb, hml, hown, hts, hK, hA, hlk, hR, hSE⟩ := C
  intro res h H locs ls hP hD hS hL
  have hn : nL = nn := hn
  exact lv_istore hx hb hd hL (by rw [hn]; exact hlt) hl (fun ls' hL' => kk res h H locs ls' hP hD hS hL')
theorem gg_lload_n (C : Cx X D T cc own rm) {k : Fin 4} {i : Nat} {v : Int64} (hd : decode cc pc = .ok (.lload_n k, 1)) (hi : (k : Nat) = i) (j : Nat) (hl : lv[j]? = some (i, .long v)) (kk : GG X D Q n ws lv (pc + 1) (.long v :: st) o) : GG X D Q n ws lv pc st o := by
  obtain ⟨p, l, e, R, s, m, args, below, meth, c, A, nL⟩ := X
  obtain ⟨hx, hb, hml, hown, hts, hK, hA, hlk, hR, hSE⟩ := C
  intro res h H locs ls hP hD hS hL
  exact lv_lload_n hx hb hd hi (lv_at hL j hl) (kk res h H locs ls hP hD hS hL)
theorem gg_lload (C : Cx X D T cc own rm) {i : Nat} {v : Int64} (hd : decode cc pc = .ok (.lload i, 2)) (j : Nat) (hl : lv[j]? = some (i, .long v)) (kk : GG X D Q n ws lv (pc + 2) (.long v :: st) o) : GG X D Q n ws lv pc st o := by
  obtain ⟨p, l, e, R, s, m, args, below, meth, c, A, nL⟩ := X
  obtain ⟨hx, hb, hml, hown, hts, hK, hA, hlk, hR, hSE⟩ := C
  intro res h H locs ls hP hD hS hL
  exact lv_lload hx hb hd (lv_at hL j hl) (kk res h H locs ls hP hD hS hL)
theorem gg_lstore_n (C : Cx X D T cc own rm) {k : Fin 4} {i nn : Nat} {v : Int64} (hd : decode cc pc = .ok (.lstore_n k, 1)) (hi : (k : Nat) = i) (hn : kxL X = nn) (hlt : i + 1 < nn) (hl : (i, Value.long v) :: lv.filter (fun q => !(q.1 == i) && (!(q.1 == i + 1) && !(q.1 + 1 == i && q.2.category == 2))) = lv') (kk : GG X D Q n ws lv' (pc + 1) st o) : GG X D Q n ws lv pc (.long v :: st) o := by
  obtain ⟨p, l, e, R, s, m, args, below, meth, c, A, nL⟩ := X
  obtain ⟨hx, hb, hml, hown, hts, hK, hA, hlk, hR, hSE⟩ := C
  intro res h H locs ls hP hD hS hL
  have hn : nL = nn := hn
  exact lv_lstore_n hx hb hd hi hL (by rw [hn]; exact hlt) hl (fun ls' hL' => kk res h H locs ls' hP hD hS hL')
theorem gg_lstore (C : Cx X D T cc own rm) {i nn : Nat} {v : Int64} (hd : decode cc pc = .ok (.lstore i, 2)) (hn : kxL X = nn) (hlt : i + 1 < nn) (hl : (i, Value.long v) :: lv.filter (fun q => !(q.1 == i) && (!(q.1 == i + 1) && !(q.1 + 1 == i && q.2.category == 2))) = lv') (kk : GG X D Q n ws lv' (pc + 2) st o) : GG X D Q n ws lv pc (.long v :: st) o := by
  obtain ⟨p, l, e, R, s, m, args, below, meth, c, A, nL⟩ := X
  obtain ⟨hx, hb, hml, hown, hts, hK, hA, hlk, hR, hSE⟩ := C
  intro res h H locs ls hP hD hS hL
  have hn : nL = nn := hn
  exact lv_lstore hx hb hd hL (by rw [hn]; exact hlt) hl (fun ls' hL' => kk res h H locs ls' hP hD hS hL')
theorem gg_aload_n (C : Cx X D T cc own rm) {k : Fin 4} {i : Nat} {v : Nat} (hd : decode cc pc = .ok (.aload_n k, 1)) (hi : (k : Nat) = i) (j : Nat) (hl : lv[j]? = some (i, .ref v)) (kk : GG X D Q n ws lv (pc + 1) (.ref v :: st) o) : GG X D Q n ws lv pc st o := by
  obtain ⟨p, l, e, R, s, m, args, below, meth, c, A, nL⟩ := X
  obtain ⟨hx, hb, hml, hown, hts, hK, hA, hlk, hR, hSE⟩ := C
  intro res h H locs ls hP hD hS hL
  exact lv_aload_n hx hb hd hi (lv_at hL j hl) (kk res h H locs ls hP hD hS hL)
theorem gg_aload (C : Cx X D T cc own rm) {i : Nat} {v : Nat} (hd : decode cc pc = .ok (.aload i, 2)) (j : Nat) (hl : lv[j]? = some (i, .ref v)) (kk : GG X D Q n ws lv (pc + 2) (.ref v :: st) o) : GG X D Q n ws lv pc st o := by
  obtain ⟨p, l, e, R, s, m, args, below, meth, c, A, nL⟩ := X
  obtain ⟨hx, hb, hml, hown, hts, hK, hA, hlk, hR, hSE⟩ := C
  intro res h H locs ls hP hD hS hL
  exact lv_aload hx hb hd (lv_at hL j hl) (kk res h H locs ls hP hD hS hL)
theorem gg_astore_n (C : Cx X D T cc own rm) {k : Fin 4} {i nn : Nat} {v : Nat} (hd : decode cc pc = .ok (.astore_n k, 1)) (hi : (k : Nat) = i) (hn : kxL X = nn) (hlt : i < nn) (hl : (i, Value.ref v) :: lv.filter (fun q => !(q.1 == i) && !(q.1 + 1 == i && q.2.category == 2)) = lv') (kk : GG X D Q n ws lv' (pc + 1) st o) : GG X D Q n ws lv pc (.ref v :: st) o := by
  obtain ⟨p, l, e, R, s, m, args, below, meth, c, A, nL⟩ := X
  obtain ⟨hx, hb, hml, hown, hts, hK, hA, hlk, hR, hSE⟩ := C
  intro res h H locs ls hP hD hS hL
  have hn : nL = nn := hn
  exact lv_astore_n hx hb hd hi hL (by rw [hn]; exact hlt) hl (fun ls' hL' => kk res h H locs ls' hP hD hS hL')
theorem gg_astore (C : Cx X D T cc own rm) {i nn : Nat} {v : Nat} (hd : decode cc pc = .ok (.astore i, 2)) (hn : kxL X = nn) (hlt : i < nn) (hl : (i, Value.ref v) :: lv.filter (fun q => !(q.1 == i) && !(q.1 + 1 == i && q.2.category == 2)) = lv') (kk : GG X D Q n ws lv' (pc + 2) st o) : GG X D Q n ws lv pc (.ref v :: st) o := by
  obtain ⟨p, l, e, R, s, m, args, below, meth, c, A, nL⟩ := X
  obtain ⟨hx, hb, hml, hown, hts, hK, hA, hlk, hR, hSE⟩ := C
  intro res h H locs ls hP hD hS hL
  have hn : nL = nn := hn
  exact lv_astore hx hb hd hL (by rw [hn]; exact hlt) hl (fun ls' hL' => kk res h H locs ls' hP hD hS hL')
theorem gg_iinc (C : Cx X D T cc own rm) {i nn j : Nat} {z : Int} {x v : Int32} (hd : decode cc pc = .ok (.iinc i z, 3)) (hj : lv[j]? = some (i, .int x)) (hv : x + Int32.ofInt z = v) (hn : kxL X = nn) (hlt : i < nn) (hl : (i, Value.int v) :: lv.filter (fun q => !(q.1 == i) && !(q.1 + 1 == i && q.2.category == 2)) = lv') (kk : GG X D Q n ws lv' (pc + 3) st o) : GG X D Q n ws lv pc st o := by
  obtain ⟨p, l, e, R, s, m, args, below, meth, c, A, nL⟩ := X
  obtain ⟨hx, hb, hml, hown, hts, hK, hA, hlk, hR, hSE⟩ := C
  intro res h H locs ls hP hD hS hL
  have hn : nL = nn := hn
  exact lv_iinc hx hb hd hL (k := j) hj hv (by rw [hn]; exact hlt) hl (fun ls' hL' => kk res h H locs ls' hP hD hS hL')
theorem gg_sub (ks : List Nat) (hl : lv_pick lv ks = lv') (kk : GG X D Q n ws lv' pc st o) : GG X D Q n ws lv pc st o := by
  obtain ⟨p, l, e, R, s, m, args, below, meth, c, A, nL⟩ := X
  intro res h H locs ls hP hD hS hL
  exact kk res h H locs ls hP hD hS (lv_sub hL ks hl)
theorem gg_icmp_eq (C : Cx X D T cc own rm) {x y : Int32} {off : Int} {tgt : Nat} (hd : decode cc pc = .ok (.if_icmp .eq off, 3)) (ht : (pc : Int) + off = (tgt : Int)) (kt : x = y → GG X D Q n ws lv tgt st o1) (kf : ¬ x = y → GG X D Q n ws lv (pc + 3) st o2) : GG X D Q n ws lv pc (.int y :: .int x :: st) (if x = y then o1 else o2) := by
  obtain ⟨p, l, e, R, s, m, args, below, meth, c, A, nL⟩ := X
  obtain ⟨hx, hb, hml, hown, hts, hK, hA, hlk, hR, hSE⟩ := C
  intro res h H locs ls hP hD hS hL
  exact lv_icmp_eq hx hb hd ht (fun c1 => kt c1 res (by rw [if_pos c1] at h; exact h) H locs ls hP hD hS hL) (fun c1 => kf c1 res (by first | (rw [if_neg c1] at h; exact h) | (rw [if_neg (fun q => q c1)] at h; exact h)) H locs ls hP hD hS hL)
theorem gg_icmp_eq_T (C : Cx X D T cc own rm) {x y : Int32} {off : Int} {tgt : Nat} (hd : decode cc pc = .ok (.if_icmp .eq off, 3)) (ht : (pc : Int) + off = (tgt : Int)) (hc : x = y) (kt : GG X D Q n ws lv tgt st o) : GG X D Q n ws lv pc (.int y :: .int x :: st) o := by
  obtain ⟨p, l, e, R, s, m, args, below, meth, c, A, nL⟩ := X
  obtain ⟨hx, hb, hml, hown, hts, hK, hA, hlk, hR, hSE⟩ := C
  intro res h H locs ls hP hD hS hL
  exact lv_icmp_eq hx hb hd ht (fun _ => kt res h H locs ls hP hD hS hL) (fun c1 => absurd hc c1)
theorem gg_icmp_eq_F (C : Cx X D T cc own rm) {x y : Int32} {off : Int} (tgt : Nat) (hd : decode cc pc = .ok (.if_icmp .eq off, 3)) (ht : (pc : Int) + off = (tgt : Int)) (hc : ¬ (x = y)) (kf : GG X D Q n ws lv (pc + 3) st o) : GG X D Q n ws lv pc (.int y :: .int x :: st) o := by
  obtain ⟨p, l, e, R, s, m, args, below, meth, c, A, nL⟩ := X
  obtain ⟨hx, hb, hml, hown, hts, hK, hA, hlk, hR, hSE⟩ := C
  intro res h H locs ls hP hD hS hL
  exact lv_icmp_eq hx hb hd ht (fun c1 => absurd c1 hc) (fun _ => kf res h H locs ls hP hD hS hL)
theorem gg_if_eq (C : Cx X D T cc own rm) {x : Int32} {off : Int} {tgt : Nat} (hd : decode cc pc = .ok (.ifCond .eq off, 3)) (ht : (pc : Int) + off = (tgt : Int)) (kt : x = 0 → GG X D Q n ws lv tgt st o1) (kf : ¬ x = 0 → GG X D Q n ws lv (pc + 3) st o2) : GG X D Q n ws lv pc (.int x :: st) (if x = 0 then o1 else o2) := by
  obtain ⟨p, l, e, R, s, m, args, below, meth, c, A, nL⟩ := X
  obtain ⟨hx, hb, hml, hown, hts, hK, hA, hlk, hR, hSE⟩ := C
  intro res h H locs ls hP hD hS hL
  exact lv_if_eq hx hb hd ht (fun c1 => kt c1 res (by rw [if_pos c1] at h; exact h) H locs ls hP hD hS hL) (fun c1 => kf c1 res (by first | (rw [if_neg c1] at h; exact h) | (rw [if_neg (fun q => q c1)] at h; exact h)) H locs ls hP hD hS hL)
theorem gg_if_eq_T (C : Cx X D T cc own rm) {x : Int32} {off : Int} {tgt : Nat} (hd : decode cc pc = .ok (.ifCond .eq off, 3)) (ht : (pc : Int) + off = (tgt : Int)) (hc : x = 0) (kt : GG X D Q n ws lv tgt st o) : GG X D Q n ws lv pc (.int x :: st) o := by
  obtain ⟨p, l, e, R, s, m, args, below, meth, c, A, nL⟩ := X
  obtain ⟨hx, hb, hml, hown, hts, hK, hA, hlk, hR, hSE⟩ := C
  intro res h H locs ls hP hD hS hL
  exact lv_if_eq hx hb hd ht (fun _ => kt res h H locs ls hP hD hS hL) (fun c1 => absurd hc c1)
theorem gg_if_eq_F (C : Cx X D T cc own rm) {x : Int32} {off : Int} (tgt : Nat) (hd : decode cc pc = .ok (.ifCond .eq off, 3)) (ht : (pc : Int) + off = (tgt : Int)) (hc : ¬ (x = 0)) (kf : GG X D Q n ws lv (pc + 3) st o) : GG X D Q n ws lv pc (.int x :: st) o := by
  obtain ⟨p, l, e, R, s, m, args, below, meth, c, A, nL⟩ := X
  obtain ⟨hx, hb, hml, hown, hts, hK, hA, hlk, hR, hSE⟩ := C
  intro res h H locs ls hP hD hS hL
  exact lv_if_eq hx hb hd ht (fun c1 => absurd c1 hc) (fun _ => kf res h H locs ls hP hD hS hL)
theorem gg_icmp_ne (C : Cx X D T cc own rm) {x y : Int32} {off : Int} {tgt : Nat} (hd : decode cc pc = .ok (.if_icmp .ne off, 3)) (ht : (pc : Int) + off = (tgt : Int)) (kt : ¬ x = y → GG X D Q n ws lv tgt st o1) (kf : x = y → GG X D Q n ws lv (pc + 3) st o2) : GG X D Q n ws lv pc (.int y :: .int x :: st) (if x = y then o2 else o1) := by
  obtain ⟨p, l, e, R, s, m, args, below, meth, c, A, nL⟩ := X
  obtain ⟨hx, hb, hml, hown, hts, hK, hA, hlk, hR, hSE⟩ := C
  intro res h H locs ls hP hD hS hL
  exact lv_icmp_ne hx hb hd ht (fun c1 => kt c1 res (by rw [if_neg c1] at h; exact h) H locs ls hP hD hS hL) (fun c1 => kf c1 res (by rw [if_pos c1] at h; exact h) H locs ls hP hD hS hL)
theorem gg_icmp_ne_T (C : Cx X D T cc own rm) {x y : Int32} {off : Int} {tgt : Nat} (hd : decode cc pc = .ok (.if_icmp .ne off, 3)) (ht : (pc : Int) + off = (tgt : Int)) (hc : ¬ x = y) (kt : GG X D Q n ws lv tgt st o) : GG X D Q n ws lv pc (.int y :: .int x :: st) o := by
  obtain ⟨p, l, e, R, s, m, args, below, meth, c, A, nL⟩ := X
  obtain ⟨hx, hb, hml, hown, hts, hK, hA, hlk, hR, hSE⟩ := C
  intro res h H locs ls hP hD hS hL
  exact lv_icmp_ne hx hb hd ht (fun _ => kt res h H locs ls hP hD hS hL) (fun c1 => absurd hc (fun z => by first | exact z c1 | exact c1 z))
theorem gg_icmp_ne_F (C : Cx X D T cc own rm) {x y : Int32} {off : Int} (tgt : Nat) (hd : decode cc pc = .ok (.if_icmp .ne off, 3)) (ht : (pc : Int) + off = (tgt : Int)) (hc : ¬ (¬ x = y)) (kf : GG X D Q n ws lv (pc + 3) st o) : GG X D Q n ws lv pc (.int y :: .int x :: st) o := by
  obtain ⟨p, l, e, R, s, m, args, below, meth, c, A, nL⟩ := X
  obtain ⟨hx, hb, hml, hown, hts, hK, hA, hlk, hR, hSE⟩ := C
  intro res h H locs ls hP hD hS hL
  exact lv_icmp_ne hx hb hd ht (fun c1 => absurd c1 hc) (fun _ => kf res h H locs ls hP hD hS hL)
theorem gg_if_ne (C : Cx X D T cc own rm) {x : Int32} {off : Int} {tgt : Nat} (hd : decode cc pc = .ok (.ifCond .ne off, 3)) (ht : (pc : Int) + off = (tgt : Int)) (kt : ¬ x = 0 → GG X D Q n ws lv tgt st o1) (kf : x = 0 → GG X D Q n ws lv (pc + 3) st o2) : GG X D Q n ws lv pc (.int x :: st) (if x = 0 then o2 else o1) := by
  obtain ⟨p, l, e, R, s, m, args, below, meth, c, A, nL⟩ := X
  obtain ⟨hx, hb, hml, hown, hts, hK, hA, hlk, hR, hSE⟩ := C
  intro res h H locs ls hP hD hS hL
  exact lv_if_ne hx hb hd ht (fun c1 => kt c1 res (by rw [if_neg c1] at h; exact h) H locs ls hP hD hS hL) (fun c1 => kf c1 res (by rw [if_pos c1] at h; exact h) H locs ls hP hD hS hL)
theorem gg_if_ne_T (C : Cx X D T cc own rm) {x : Int32} {off : Int} {tgt : Nat} (hd : decode cc pc = .ok (.ifCond .ne off, 3)) (ht : (pc : Int) + off = (tgt : Int)) (hc : ¬ x = 0) (kt : GG X D Q n ws lv tgt st o) : GG X D Q n ws lv pc (.int x :: st) o := by
  obtain ⟨p, l, e, R, s, m, args, below, meth, c, A, nL⟩ := X
  obtain ⟨hx, hb, hml, hown, hts, hK, hA, hlk, hR, hSE⟩ := C
  intro res h H locs ls hP hD hS hL
  exact lv_if_ne hx hb hd ht (fun _ => kt res h H locs ls hP hD hS hL) (fun c1 => absurd hc (fun z => by first | exact z c1 | exact c1 z))
theorem gg_if_ne_F (C : Cx X D T cc own rm) {x : Int32} {off : Int} (tgt : Nat) (hd : decode cc pc = .ok (.ifCond .ne off, 3)) (ht : (pc : Int) + off = (tgt : Int)) (hc : ¬ (¬ x = 0)) (kf : GG X D Q n ws lv (pc + 3) st o) : GG X D Q n ws lv pc (.int x :: st) o := by
  obtain ⟨p, l, e, R, s, m, args, below, meth, c, A, nL⟩ := X
  obtain ⟨hx, hb, hml, hown, hts, hK, hA, hlk, hR, hSE⟩ := C
  intro res h H locs ls hP hD hS hL
  exact lv_if_ne hx hb hd ht (fun c1 => absurd c1 hc) (fun _ => kf res h H locs ls hP hD hS hL)
theorem gg_icmp_lt (C : Cx X D T cc own rm) {x y : Int32} {off : Int} {tgt : Nat} (hd : decode cc pc = .ok (.if_icmp .lt off, 3)) (ht : (pc : Int) + off = (tgt : Int)) (kt : x < y → GG X D Q n ws lv tgt st o1) (kf : ¬ x < y → GG X D Q n ws lv (pc + 3) st o2) : GG X D Q n ws lv pc (.int y :: .int x :: st) (if x < y then o1 else o2) := by
  obtain ⟨p, l, e, R, s, m, args, below, meth, c, A, nL⟩ := X
  obtain ⟨hx, hb, hml, hown, hts, hK, hA, hlk, hR, hSE⟩ := C
  intro res h H locs ls hP hD hS hL
  exact lv_icmp_lt hx hb hd ht (fun c1 => kt c1 res (by rw [if_pos c1] at h; exact h) H locs ls hP hD hS hL) (fun c1 => kf c1 res (by first | (rw [if_neg c1] at h; exact h) | (rw [if_neg (fun q => q c1)] at h; exact h)) H locs ls hP hD hS hL)
theorem gg_icmp_lt_T (C : Cx X D T cc own rm) {x y : Int32} {off : Int} {tgt : Nat} (hd : decode cc pc = .ok (.if_icmp .lt off, 3)) (ht : (pc : Int) + off = (tgt : Int)) (hc : x < y) (kt : GG X D Q n ws lv tgt st o) : GG X D Q n ws lv pc (.int y :: .int x :: st) o := by
  obtain ⟨p, l, e, R, s, m, args, below, meth, c, A, nL⟩ := X
  obtain ⟨hx, hb, hml, hown, hts, hK, hA, hlk, hR, hSE⟩ := C
  intro res h H locs ls hP hD hS hL
  exact lv_icmp_lt hx hb hd ht (fun _ => kt res h H locs ls hP hD hS hL) (fun c1 => absurd hc c1)
theorem gg_icmp_lt_F (C : Cx X D T cc own rm) {x y : Int32} {off : Int} (tgt : Nat) (hd : decode cc pc = .ok (.if_icmp .lt off, 3)) (ht : (pc : Int) + off = (tgt : Int)) (hc : ¬ (x < y)) (kf : GG X D Q n ws lv (pc + 3) st o) : GG X D Q n ws lv pc (.int y :: .int x :: st) o := by
  obtain ⟨p, l, e, R, s, m, args, below, meth, c, A, nL⟩ := X
  obtain ⟨hx, hb, hml, hown, hts, hK, hA, hlk, hR, hSE⟩ := C
  intro res h H locs ls hP hD hS hL
  exact lv_icmp_lt hx hb hd ht (fun c1 => absurd c1 hc) (fun _ => kf res h H locs ls hP hD hS hL)
theorem gg_if_lt (C : Cx X D T cc own rm) {x : Int32} {off : Int} {tgt : Nat} (hd : decode cc pc = .ok (.ifCond .lt off, 3)) (ht : (pc : Int) + off = (tgt : Int)) (kt : x < 0 → GG X D Q n ws lv tgt st o1) (kf : ¬ x < 0 → GG X D Q n ws lv (pc + 3) st o2) : GG X D Q n ws lv pc (.int x :: st) (if x < 0 then o1 else o2) := by
  obtain ⟨p, l, e, R, s, m, args, below, meth, c, A, nL⟩ := X
  obtain ⟨hx, hb, hml, hown, hts, hK, hA, hlk, hR, hSE⟩ := C
  intro res h H locs ls hP hD hS hL
  exact lv_if_lt hx hb hd ht (fun c1 => kt c1 res (by rw [if_pos c1] at h; exact h) H locs ls hP hD hS hL) (fun c1 => kf c1 res (by first | (rw [if_neg c1] at h; exact h) | (rw [if_neg (fun q => q c1)] at h; exact h)) H locs ls hP hD hS hL)
theorem gg_if_lt_T (C : Cx X D T cc own rm) {x : Int32} {off : Int} {tgt : Nat} (hd : decode cc pc = .ok (.ifCond .lt off, 3)) (ht : (pc : Int) + off = (tgt : Int)) (hc : x < 0) (kt : GG X D Q n ws lv tgt st o) : GG X D Q n ws lv pc (.int x :: st) o := by
  obtain ⟨p, l, e, R, s, m, args, below, meth, c, A, nL⟩ := X
  obtain ⟨hx, hb, hml, hown, hts, hK, hA, hlk, hR, hSE⟩ := C
  intro res h H locs ls hP hD hS hL
  exact lv_if_lt hx hb hd ht (fun _ => kt res h H locs ls hP hD hS hL) (fun c1 => absurd hc c1)
theorem gg_if_lt_F (C : Cx X D T cc own rm) {x : Int32} {off : Int} (tgt : Nat) (hd : decode cc pc = .ok (.ifCond .lt off, 3)) (ht : (pc : Int) + off = (tgt : Int)) (hc : ¬ (x < 0)) (kf : GG X D Q n ws lv (pc + 3) st o) : GG X D Q n ws lv pc (.int x :: st) o := by
  obtain ⟨p, l, e, R, s, m, args, below, meth, c, A, nL⟩ := X
  obtain ⟨hx, hb, hml, hown, hts, hK, hA, hlk, hR, hSE⟩ := C
  intro res h H locs ls hP hD hS hL
  exact lv_if_lt hx hb hd ht (fun c1 => absurd c1 hc) (fun _ => kf res h H locs ls hP hD hS hL)
theorem gg_icmp_ge (C : Cx X D T cc own rm) {x y : Int32} {off : Int} {tgt : Nat} (hd : decode cc pc = .ok (.if_icmp .ge off, 3)) (ht : (pc : Int) + off = (tgt : Int)) (kt : y ≤ x → GG X D Q n ws lv tgt st o1) (kf : ¬ y ≤ x → GG X D Q n ws lv (pc + 3) st o2) : GG X D Q n ws lv pc (.int y :: .int x :: st) (if y ≤ x then o1 else o2) := by
  obtain ⟨p, l, e, R, s, m, args, below, meth, c, A, nL⟩ := X
  obtain ⟨hx, hb, hml, hown, hts, hK, hA, hlk, hR, hSE⟩ := C
  intro res h H locs ls hP hD hS hL
  exact lv_icmp_ge hx hb hd ht (fun c1 => kt c1 res (by rw [if_pos c1] at h; exact h) H locs ls hP hD hS hL) (fun c1 => kf c1 res (by first | (rw [if_neg c1] at h; exact h) | (rw [if_neg (fun q => q c1)] at h; exact h)) H locs ls hP hD hS hL)
theorem gg_icmp_ge_T (C : Cx X D T cc own rm) {x y : Int32} {off : Int} {tgt : Nat} (hd : decode cc pc = .ok (.if_icmp .ge off, 3)) (ht : (pc : Int) + off = (tgt : Int)) (hc : y ≤ x) (kt : GG X D Q n ws lv tgt st o) : GG X D Q n ws lv pc (.int y :: .int x :: st) o := by
  obtain ⟨p, l, e, R, s, m, args, below, meth, c, A, nL⟩ := X
  obtain ⟨hx, hb, hml, hown, hts, hK, hA, hlk, hR, hSE⟩ := C
  intro res h H locs ls hP hD hS hL
  exact lv_icmp_ge hx hb hd ht (fun _ => kt res h H locs ls hP hD hS hL) (fun c1 => absurd hc c1)
theorem gg_icmp_ge_F (C : Cx X D T cc own rm) {x y : Int32} {off : Int} (tgt : Nat) (hd : decode cc pc = .ok (.if_icmp .ge off, 3)) (ht : (pc : Int) + off = (tgt : Int)) (hc : ¬ (y ≤ x)) (kf : GG X D Q n ws lv (pc + 3) st o) : GG X D Q n ws lv pc (.int y :: .int x :: st) o := by
  obtain ⟨p, l, e, R, s, m, args, below, meth, c, A, nL⟩ := X
  obtain ⟨hx, hb, hml, hown, hts, hK, hA, hlk, hR, hSE⟩ := C
  intro res h H locs ls hP hD hS hL
  exact lv_icmp_ge hx hb hd ht (fun c1 => absurd c1 hc) (fun _ => kf res h H locs ls hP hD hS hL)
theorem gg_if_ge (C : Cx X D T cc own rm) {x : Int32} {off : Int} {tgt : Nat} (hd : decode cc pc = .ok (.ifCond .ge off, 3)) (ht : (pc : Int) + off = (tgt : Int)) (kt : 0 ≤ x → GG X D Q n ws lv tgt st o1) (kf : ¬ 0 ≤ x → GG X D Q n ws lv (pc + 3) st o2) : GG X D Q n ws lv pc (.int x :: st) (if 0 ≤ x then o1 else o2) := by
  obtain ⟨p, l, e, R, s, m, args, below, meth, c, A, nL⟩ := X
  obtain ⟨hx, hb, hml, hown, hts, hK, hA, hlk, hR, hSE⟩ := C
  intro res h H locs ls hP hD hS hL
  exact lv_if_ge hx hb hd ht (fun c1 => kt c1 res (by rw [if_pos c1] at h; exact h) H locs ls hP hD hS hL) (fun c1 => kf c1 res (by first | (rw [if_neg c1] at h; exact h) | (rw [if_neg (fun q => q c1)] at h; exact h)) H locs ls hP hD hS hL)
theorem gg_if_ge_T (C : Cx X D T cc own rm) {x : Int32} {off : Int} {tgt : Nat} (hd : decode cc pc = .ok (.ifCond .ge off, 3)) (ht : (pc : Int) + off = (tgt : Int)) (hc : 0 ≤ x) (kt : GG X D Q n ws lv tgt st o) : GG X D Q n ws lv pc (.int x :: st) o := by
  obtain ⟨p, l, e, R, s, m, args, below, meth, c, A, nL⟩ := X
  obtain ⟨hx, hb, hml, hown, hts, hK, hA, hlk, hR, hSE⟩ := C
  intro res h H locs ls hP hD hS hL
  exact lv_if_ge hx hb hd ht (fun _ => kt res h H locs ls hP hD hS hL) (fun c1 => absurd hc c1)
theorem gg_if_ge_F (C : Cx X D T cc own rm) {x : Int32} {off : Int} (tgt : Nat) (hd : decode cc pc = .ok (.ifCond .ge off, 3)) (ht : (pc : Int) + off = (tgt : Int)) (hc : ¬ (0 ≤ x)) (kf : GG X D Q n ws lv (pc + 3) st o) : GG X D Q n ws lv pc (.int x :: st) o := by
  obtain ⟨p, l, e, R, s, m, args, below, meth, c, A, nL⟩ := X
  obtain ⟨hx, hb, hml, hown, hts, hK, hA, hlk, hR, hSE⟩ := C
  intro res h H locs ls hP hD hS hL
  exact lv_if_ge hx hb hd ht (fun c1 => absurd c1 hc) (fun _ => kf res h H locs ls hP hD hS hL)
theorem gg_icmp_gt (C : Cx X D T cc own rm) {x y : Int32} {off : Int} {tgt : Nat} (hd : decode cc pc = .ok (.if_icmp .gt off, 3)) (ht : (pc : Int) + off = (tgt : Int)) (kt : y < x → GG X D Q n ws lv tgt st o1) (kf : ¬ y < x → GG X D Q n ws lv (pc + 3) st o2) : GG X D Q n ws lv pc (.int y :: .int x :: st) (if y < x then o1 else o2) := by
  obtain ⟨p, l, e, R, s, m, args, below, meth, c, A, nL⟩ := X
  obtain ⟨hx, hb, hml, hown, hts, hK, hA, hlk, hR, hSE⟩ := C
  intro res h H locs ls hP hD hS hL
  exact lv_icmp_gt hx hb hd ht (fun c1 => kt c1 res (by rw [if_pos c1] at h; exact h) H locs ls hP hD hS hL) (fun c1 => kf c1 res (by first | (rw [if_neg c1] at h; exact h) | (rw [if_neg (fun q => q c1)] at h; exact h)) H locs ls hP hD hS hL)
theorem gg_icmp_gt_T (C : Cx X D T cc own rm) {x y : Int32} {off : Int} {tgt : Nat} (hd : decode cc pc = .ok (.if_icmp .gt off, 3)) (ht : (pc : Int) + off = (tgt : Int)) (hc : y < x) (kt : GG X D Q n ws lv tgt st o) : GG X D Q n ws lv pc (.int y :: .int x :: st) o := by
  obtain ⟨p, l, e, R, s, m, args, below, meth, c, A, nL⟩ := X
  obtain ⟨hx, hb, hml, hown, hts, hK, hA, hlk, hR, hSE⟩ := C
  intro res h H locs ls hP hD hS hL
  exact lv_icmp_gt hx hb hd ht (fun _ => kt res h H locs ls hP hD hS hL) (fun c1 => absurd hc c1)
theorem gg_icmp_gt_F (C : Cx X D T cc own rm) {x y : Int32} {off : Int} (tgt : Nat) (hd : decode cc pc = .ok (.if_icmp .gt off, 3)) (ht : (pc : Int) + off = (tgt : Int)) (hc : ¬ (y < x)) (kf : GG X D Q n ws lv (pc + 3) st o) : GG X D Q n ws lv pc (.int y :: .int x :: st) o := by
  obtain ⟨p, l, e, R, s, m, args, below, meth, c, A, nL⟩ := X
  obtain ⟨hx, hb, hml, hown, hts, hK, hA, hlk, hR, hSE⟩ := C
  intro res h H locs ls hP hD hS hL
  exact lv_icmp_gt hx hb hd ht (fun c1 => absurd c1 hc) (fun _ => kf res h H locs ls hP hD hS hL)
theorem gg_if_gt (C : Cx X D T cc own rm) {x : Int32} {off : Int} {tgt : Nat} (hd : decode cc pc = .ok (.ifCond .gt off, 3)) (ht : (pc : Int) + off = (tgt : Int)) (kt : 0 < x → GG X D Q n ws lv tgt st o1) (kf : ¬ 0 < x → GG X D Q n ws lv (pc + 3) st o2) : GG X D Q n ws lv pc (.int x :: st) (if 0 < x then o1 else o2) := by
  obtain ⟨p, l, e, R, s, m, args, below, meth, c, A, nL⟩ := X
  obtain ⟨hx, hb, hml, hown, hts, hK, hA, hlk, hR, hSE⟩ := C
  intro res h H locs ls hP hD hS hL
  exact lv_if_gt hx hb hd ht (fun c1 => kt c1 res (by rw [if_pos c1] at h; exact h) H locs ls hP hD hS hL) (fun c1 => kf c1 res (by first | (rw [if_neg c1] at h; exact h) | (rw [if_neg (fun q => q c1)] at h; exact h)) H locs ls hP hD hS hL)
theorem gg_if_gt_T (C : Cx X D T cc own rm) {x : Int32} {off : Int} {tgt : Nat} (hd : decode cc pc = .ok (.ifCond .gt off, 3)) (ht : (pc : Int) + off = (tgt : Int)) (hc : 0 < x) (kt : GG X D Q n ws lv tgt st o) : GG X D Q n ws lv pc (.int x :: st) o := by
  obtain ⟨p, l, e, R, s, m, args, below, meth, c, A, nL⟩ := X
  obtain ⟨hx, hb, hml, hown, hts, hK, hA, hlk, hR, hSE⟩ := C
  intro res h H locs ls hP hD hS hL
  exact lv_if_gt hx hb hd ht (fun _ => kt res h H locs ls hP hD hS hL) (fun c1 => absurd hc c1)
theorem gg_if_gt_F (C : Cx X D T cc own rm) {x : Int32} {off : Int} (tgt : Nat) (hd : decode cc pc = .ok (.ifCond .gt off, 3)) (ht : (pc : Int) + off = (tgt : Int)) (hc : ¬ (0 < x)) (kf : GG X D Q n ws lv (pc + 3) st o) : GG X D Q n ws lv pc (.int x :: st) o := by
  obtain ⟨p, l, e, R, s, m, args, below, meth, c, A, nL⟩ := X
  obtain ⟨hx, hb, hml, hown, hts, hK, hA, hlk, hR, hSE⟩ := C
  intro res h H locs ls hP hD hS hL
  exact lv_if_gt hx hb hd ht (fun c1 => absurd c1 hc) (fun _ => kf res h H locs ls hP hD hS hL)
theorem gg_icmp_le (C : Cx X D T cc own rm) {x y : Int32} {off : Int} {tgt : Nat} (hd : decode cc pc = .ok (.if_icmp .le off, 3)) (ht : (pc : Int) + off = (tgt : Int)) (kt : x ≤ y → GG X D Q n ws lv tgt st o1) (kf : ¬ x ≤ y → GG X D Q n ws lv (pc + 3) st o2) : GG X D Q n ws lv pc (.int y :: .int x :: st) (if x ≤ y then o1 else o2) := by
  obtain ⟨p, l, e, R, s, m, args, below, meth, c, A, nL⟩ := X
  obtain ⟨hx, hb, hml, hown, hts, hK, hA, hlk, hR, hSE⟩ := C
  intro res h H locs ls hP hD hS hL
  exact lv_icmp_le hx hb hd ht (fun c1 => kt c1 res (by rw [if_pos c1] at h; exact h) H locs ls hP hD hS hL) (fun c1 => kf c1 res (by first | (rw [if_neg c1] at h; exact h) | (rw [if_neg (fun q => q c1)] at h; exact h)) H locs ls hP hD hS hL)
theorem gg_icmp_le_T (C : Cx X D T cc own rm) {x y : Int32} {off : Int} {tgt : Nat} (hd : decode cc pc = .ok (.if_icmp .le off, 3)) (ht : (pc : Int) + off = (tgt : Int)) (hc : x ≤ y) (kt : GG X D Q n ws lv tgt st o) : GG X D Q n ws lv pc (.int y :: .int x :: st) o := by
  obtain ⟨p, l, e, R, s, m, args, below, meth, c, A, nL⟩ := X
  obtain ⟨hx, hb, hml, hown, hts, hK, hA, hlk, hR, hSE⟩ := C
  intro res h H locs ls hP hD hS hL
  exact lv_icmp_le hx hb hd ht (fun _ => kt res h H locs ls hP hD hS hL) (fun c1 => absurd hc c1)
theorem gg_icmp_le_F (C : Cx X D T cc own rm) {x y : Int32} {off : Int} (tgt : Nat) (hd : decode cc pc = .ok (.if_icmp .le off, 3)) (ht : (pc : Int) + off = (tgt : Int)) (hc : ¬ (x ≤ y)) (kf : GG X D Q n ws lv (pc + 3) st o) : GG X D Q n ws lv pc (.int y :: .int x :: st) o := by
  obtain ⟨p, l, e, R, s, m, args, below, meth, c, A, nL⟩ := X
  obtain ⟨hx, hb, hml, hown, hts, hK, hA, hlk, hR, hSE⟩ := C
  intro res h H locs ls hP hD hS hL
  exact lv_icmp_le hx hb hd ht (fun c1 => absurd c1 hc) (fun _ => kf res h H locs ls hP hD hS hL)
theorem gg_if_le (C : Cx X D T cc own rm) {x : Int32} {off : Int} {tgt : Nat} (hd : decode cc pc = .ok (.ifCond .le off, 3)) (ht : (pc : Int) + off = (tgt : Int)) (kt : x ≤ 0 → GG X D Q n ws lv tgt st o1) (kf : ¬ x ≤ 0 → GG X D Q n ws lv (pc + 3) st o2) : GG X D Q n ws lv pc (.int x :: st) (if x ≤ 0 then o1 else o2) := by
  obtain ⟨p, l, e, R, s, m, args, below, meth, c, A, nL⟩ := X
  obtain ⟨hx, hb, hml, hown, hts, hK, hA, hlk, hR, hSE⟩ := C
  intro res h H locs ls hP hD hS hL
  exact lv_if_le hx hb hd ht (fun c1 => kt c1 res (by rw [if_pos c1] at h; exact h) H locs ls hP hD hS hL) (fun c1 => kf c1 res (by first | (rw [if_neg c1] at h; exact h) | (rw [if_neg (fun q => q c1)] at h; exact h)) H locs ls hP hD hS hL)
theorem gg_if_le_T (C : Cx X D T cc own rm) {x : Int32} {off : Int} {tgt : Nat} (hd : decode cc pc = .ok (.ifCond .le off, 3)) (ht : (pc : Int) + off = (tgt : Int)) (hc : x ≤ 0) (kt : GG X D Q n ws lv tgt st o) : GG X D Q n ws lv pc (.int x :: st) o := by
  obtain ⟨p, l, e, R, s, m, args, below, meth, c, A, nL⟩ := X
  obtain ⟨hx, hb, hml, hown, hts, hK, hA, hlk, hR, hSE⟩ := C
  intro res h H locs ls hP hD hS hL
  exact lv_if_le hx hb hd ht (fun _ => kt res h H locs ls hP hD hS hL) (fun c1 => absurd hc c1)
theorem gg_if_le_F (C : Cx X D T cc own rm) {x : Int32} {off : Int} (tgt : Nat) (hd : decode cc pc = .ok (.ifCond .le off, 3)) (ht : (pc : Int) + off = (tgt : Int)) (hc : ¬ (x ≤ 0)) (kf : GG X D Q n ws lv (pc + 3) st o) : GG X D Q n ws lv pc (.int x :: st) o := by
  obtain ⟨p, l, e, R, s, m, args, below, meth, c, A, nL⟩ := X
  obtain ⟨hx, hb, hml, hown, hts, hK, hA, hlk, hR, hSE⟩ := C
  intro res h H locs ls hP hD hS hL
  exact lv_if_le hx hb hd ht (fun c1 => absurd c1 hc) (fun _ => kf res h H locs ls hP hD hS hL)
theorem gg_goto (C : Cx X D T cc own rm) {off : Int} {tgt : Nat} (hd : decode cc pc = .ok (.goto off, 3)) (ht : (pc : Int) + off = (tgt : Int)) (kk : GG X D Q n ws lv tgt st o) : GG X D Q n ws lv pc st o := by
  obtain ⟨p, l, e, R, s, m, args, below, meth, c, A, nL⟩ := X
  obtain ⟨hx, hb, hml, hown, hts, hK, hA, hlk, hR, hSE⟩ := C
  intro res h H locs ls hP hD hS hL
  exact lv_goto hx hb hd ht (kk res h H locs ls hP hD hS hL)
theorem gg_ite {c : Prop} [Decidable c] (kt : c → GG X D Q n ws lv pc st o1) (kf : ¬ c → GG X D Q n ws lv pc st o2) : GG X D Q n ws lv pc st (if c then o1 else o2) := by
  by_cases hc : c
  · rw [if_pos hc]; exact kt hc
  · rw [if_neg hc]; exact kf hc
theorem gg_tabIn (C : Cx X D T cc own rm) {dflt lo hi : Int} {offs : Array Int} {len : Nat} {x : Int32} {off : Int} {tgt : Nat} (z : Int) (hd : decode cc pc = .ok (.tableswitch dflt lo hi offs, len)) (hz : x.toInt = z) (h1 : ¬ z < lo) (h2 : ¬ hi < z) (ho : offs[(z - lo).toNat]? = some off) (ht : (pc : Int) + off = (tgt : Int)) (kk : GG X D Q n ws lv tgt st o) : GG X D Q n ws lv pc (.int x :: st) o := by
  obtain ⟨p, l, e, R, s, m, args, below, meth, c, A, nL⟩ := X
  obtain ⟨hx, hb, hml, hown, hts, hK, hA, hlk, hR, hSE⟩ := C
  intro res h H locs ls hP hD hS hL
  subst hz
  exact lv_tableIn hx hb hd h1 h2 ho ht (kk res h H locs ls hP hD hS hL)
theorem gg_tabOut (C : Cx X D T cc own rm) {dflt lo hi : Int} {offs : Array Int} {len : Nat} {x : Int32} {tgt : Nat} (hd : decode cc pc = .ok (.tableswitch dflt lo hi offs, len)) (h1 : x.toInt < lo ∨ hi < x.toInt) (ht : (pc : Int) + dflt = (tgt : Int)) (kk : GG X D Q n ws lv tgt st o) : GG X D Q n ws lv pc (.int x :: st) o := by
  obtain ⟨p, l, e, R, s, m, args, below, meth, c, A, nL⟩ := X
  obtain ⟨hx, hb, hml, hown, hts, hK, hA, hlk, hR, hSE⟩ := C
  intro res h H locs ls hP hD hS hL
  exact lv_tableOut hx hb hd h1 ht (kk res h H locs ls hP hD hS hL)
theorem gg_look (C : Cx X D T cc own rm) {dflt : Int} {ps : Array (Int × Int)} {len : Nat} {x : Int32} {off : Int} {tgt : Nat} (hd : decode cc pc = .ok (.lookupswitch dflt ps, len)) (hp : (ps.toList.zip (ps.toList.drop 1)).all (fun (a, next) => a.1 < next.1) = true) (ho : Op.lookupswitch.offset ps.toList dflt x.toInt = off) (ht : (pc : Int) + off = (tgt : Int)) (kk : GG X D Q n ws lv tgt st o) : GG X D Q n ws lv pc (.int x :: st) o := by
  obtain ⟨p, l, e, R, s, m, args, below, meth, c, A, nL⟩ := X
  obtain ⟨hx, hb, hml, hown, hts, hK, hA, hlk, hR, hSE⟩ := C
  intro res h H locs ls hP hD hS hL
  exact lv_lookup hx hb hd hp ho ht (kk res h H locs ls hP hD hS hL)
theorem gg_bi {e : Int32} {k : Int32 → Option ρ} (kk : ∀ x, GG X D Q n ws lv pc (.int x :: st) (k x)) : GG X D Q n ws lv pc (.int e :: st) (bi e k) := kk e
theorem gg_biL {e : Int64} {k : Int64 → Option ρ} (kk : ∀ x, GG X D Q n ws lv pc (.long x :: st) (k x)) : GG X D Q n ws lv pc (.long e :: st) (bi e k) := kk e
theorem gg_bv {α : Type} {e : α} {k : α → Option ρ} (lvF : α → List (Nat × Value)) (kk : ∀ x, GG X D Q n ws (lvF x) pc st (k x)) : GG X D Q n ws (lvF e) pc st (bi e k) := kk e
theorem gg_bw {α : Type} {e : α} {k : α → Option ρ} (wF : α → va_W) (kk : ∀ x, GG X D Q n (wF x) lv pc st (k x)) : GG X D Q n (wF e) lv pc st (bi e k) := kk e
theorem gg_none : GG X D Q n ws lv pc st none := by
  obtain ⟨p, l, e, R, s, m, args, below, meth, c, A, nL⟩ := X
  intro res h
  cases h
def JQ {α : Type} (k : α → Option ρ) (Q : ρ → State → Prop) : α → State → Prop := fun v t => ∀ res, k v = some res → Q res t
theorem gg_jn {α : Type} {A : Option α} {k : α → Option ρ} (h0 : GG X D (JQ k Q) n ws lv pc st A) : GG X D Q n ws lv pc st (jn A k) := by
  obtain ⟨p, l, e, R, s, m, args, below, meth, c, Ad, nL⟩ := X
  intro res h H locs ls hP hD hS hL
  cases hA : A with
  | none => rw [hA] at h; cases h
  | some v =>
    rw [hA] at h
    intro T0 hT0 Y
    obtain ⟨t, a, b⟩ := h0 v hA H locs ls hP hD hS hL T0 hT0 Y
    exact ⟨t, a, b res h⟩
theorem gg_leaf {α : Type} {v : α} {k : α → Option ρ} (h0 : GG X D Q n ws lv pc st (k v)) : GG X D (JQ k Q) n ws lv pc st (some v) := by
  obtain ⟨p, l, e, R, s, m, args, below, meth, c, Ad, nL⟩ := X
  intro res h H locs ls hP hD hS hL
  obtain rfl := Option.some.inj h
  intro T0 hT0 Y
  cases hk : k v with
  | none => exact ⟨_, Steps.refl _, fun r hr => by rw [hk] at hr; cases hr⟩
  | some r0 =>
    obtain ⟨t, a, b⟩ := h0 r0 hk H locs ls hP hD hS hL T0 hT0 Y
    exact ⟨t, a, fun r hr => by rw [hk] at hr; obtain rfl := Option.some.inj hr; exact b⟩
theorem gg_join {α : Type} {A : Option α} {k : α → Option ρ} (J : Nat) (wJ : α → va_W) (lJ : α → List (Nat × Value)) (sJ : α → List Value) (tail : ∀ v, GG X D Q n (wJ v) (lJ v) J (sJ v) (k v)) (reg : (∀ v, GG X D (JQ k Q) n (wJ v) (lJ v) J (sJ v) (some v)) → GG X D (JQ k Q) n ws lv pc st A) : GG X D Q n ws lv pc st (jn A k) :=
  gg_jn (reg (fun v => gg_leaf (tail v)))
theorem gg_get (C : Cx X D T cc own rm) {Cn : String} {Tt : u_T} {N ci index : Nat} (hin : ∀ w ∈ u_ws Cn Tt N, w ∈ tb) (hc : vwCl[ci]? = some (Cn, Tt, N)) (k : Nat) (hk : k < N) (hlink : Cond.fieldLink own index (Tt k).1 (Tt k).2.1 (Tt k).2.2.1 ∈ tb) (q0 : Nat) {a : Nat} {fs : List Value} {v : Value} (he : ws[q0]? = some (a, .inr (ci, fs))) (hv : fs[k]? = some v) (hd : decode cc pc = .ok (.getfield index, 3)) (kk : GG X D Q n ws lv (pc + 3) (v :: st) o) : GG X D Q n ws lv pc (.ref a :: st) o := by
  obtain ⟨p, l, e, R, s, m, args, below, meth, c, A, nL⟩ := X
  obtain ⟨hx, hb, hml, hown, hts, hK, hA, hlk, hR, hSE⟩ := C
  intro res h H locs ls hP hD hS hL
  exact va_get hx hb hts hin hown hK hP q0 he hc k hk (hts _ hlink) (fun _ h9 => h9) hv hd (kk res h H locs ls hP hD hS hL)
theorem gg_put (C : Cx X D T cc own rm) {Cn : String} {Tt : u_T} {N ci index : Nat} (hin : ∀ w ∈ u_ws Cn Tt N, w ∈ tb) (ty0 : Nat → FieldType) (hty : ∀ k, k < N → parseFieldDescriptor (Tt k).2.2.1 = some (ty0 k)) (hnm : ∀ a, a < N → ∀ b, b < N → a ≠ b → (Tt a).2.1 ≠ (Tt b).2.1) (hc : vwCl[ci]? = some (Cn, Tt, N)) (k : Nat) (hk : k < N) (hlink : Cond.fieldLink own index (Tt k).1 (Tt k).2.1 (Tt k).2.2.1 ∈ tb) (hfin : (Tt k).2.2.2 = false) (q0 : Nat) {a : Nat} {fs : List Value} {v : Value} (hn : narrow (ty0 k) v = v) (hfit : fits (ty0 k) v = true) (he : ws[q0]? = some (a, .inr (ci, fs))) (hl : k < fs.length) (hd : decode cc pc = .ok (.putfield index, 3)) (hw : ws.set q0 (a, .inr (ci, fs.set k v)) = ws') (kk : GG X D Q n ws' lv (pc + 3) st o) : GG X D Q n ws lv pc (v :: .ref a :: st) o := by
  obtain ⟨p, l, e, R, s, m, args, below, meth, c, A, nL⟩ := X
  obtain ⟨hx, hb, hml, hown, hts, hK, hA, hlk, hR, hSE⟩ := C
  intro res h H locs ls hP hD hS hL
  subst hw
  exact va_put hx hb hts hin ty0 hty hnm hown hK hP hD hS q0 he hc k hk (hts _ hlink) (fun _ h9 => h9) hfin (hty k hk) hn hfit hl hd (fun H1 locs1 hP1 hD1 hS1 => kk res h H1 locs1 ls hP1 hD1 hS1 hL)
theorem gg_putF (C : Cx X D T cc own rm) (hini : (kxM X).name = "<init>") {Cn : String} {Tt : u_T} {N ci index : Nat} (hin : ∀ w ∈ u_ws Cn Tt N, w ∈ tb) (ty0 : Nat → FieldType) (hty : ∀ k, k < N → parseFieldDescriptor (Tt k).2.2.1 = some (ty0 k)) (hnm : ∀ a, a < N → ∀ b, b < N → a ≠ b → (Tt a).2.1 ≠ (Tt b).2.1) (hc : vwCl[ci]? = some (Cn, Tt, N)) (k : Nat) (hk : k < N) (hlink : Cond.fieldLink own index (Tt k).1 (Tt k).2.1 (Tt k).2.2.1 ∈ tb) (hfin : (Tt k).2.2.2 = true) (hdecl : (Tt k).1 = own) (q0 : Nat) {a : Nat} {fs : List Value} {v : Value} (hn : narrow (ty0 k) v = v) (hfit : fits (ty0 k) v = true) (he : ws[q0]? = some (a, .inr (ci, fs))) (hl : k < fs.length) (hd : decode cc pc = .ok (.putfield index, 3)) (hw : ws.set q0 (a, .inr (ci, fs.set k v)) = ws') (kk : GG X D Q n ws' lv (pc + 3) st o) : GG X D Q n ws lv pc (v :: .ref a :: st) o := by
  obtain ⟨p, l, e, R, s, m, args, below, meth, c, A, nL⟩ := X
  obtain ⟨hx, hb, hml, hown, hts, hK, hA, hlk, hR, hSE⟩ := C
  intro res h H locs ls hP hD hS hL
  subst hw
  exact va_putF hx hb hts hin ty0 hty hnm hown hK hP hD hS q0 he hc k hk (hts _ hlink) (fun _ h9 => h9) hfin hini hdecl (hty k hk) hn hfit hl hd (fun H1 locs1 hP1 hD1 hS1 => kk res h H1 locs1 ls hP1 hD1 hS1 hL)
theorem gg_iald (C : Cx X D T cc own rm) (q0 : Nat) {a N : Nat} {f : Nat → Int32} {i : Int32} (he : ws[q0]? = some (a, .inl (T 0, N, .inl f))) (hd : decode cc pc = .ok (.iaload, 1)) (kk : GG X D Q n ws lv (pc + 1) (.int (f i.toNatClampNeg) :: st) o) : GG X D Q n ws lv pc (.int i :: .ref a :: st) (gu i N o) := by
  obtain ⟨p, l, e, R, s, m, args, below, meth, c, A, nL⟩ := X
  obtain ⟨hx, hb, hml, hown, hts, hK, hA, hlk, hR, hSE⟩ := C
  intro res h H locs ls hP hD hS hL
  by_cases hi : i < 0 ∨ N ≤ i.toNatClampNeg
  · rw [gu, if_pos hi] at h; cases h
  rw [gu, if_neg hi] at h
  exact va_iald hx hb hK hP q0 0 he rfl hi hd (kk res h H locs ls hP hD hS hL)
theorem gg_iast (C : Cx X D T cc own rm) (q0 : Nat) {a N : Nat} {f : Nat → Int32} {i x : Int32} (he : ws[q0]? = some (a, .inl (T 0, N, .inl f))) (hd : decode cc pc = .ok (.iastore, 1)) (hw : ws.set q0 (a, .inl (T 0, N, .inl (upd f i.toNatClampNeg x))) = ws') (kk : GG X D Q n ws' lv (pc + 1) st o) : GG X D Q n ws lv pc (.int x :: .int i :: .ref a :: st) (gu i N o) := by
  obtain ⟨p, l, e, R, s, m, args, below, meth, c, A, nL⟩ := X
  obtain ⟨hx, hb, hml, hown, hts, hK, hA, hlk, hR, hSE⟩ := C
  intro res h H locs ls hP hD hS hL
  by_cases hi : i < 0 ∨ N ≤ i.toNatClampNeg
  · rw [gu, if_pos hi] at h; cases h
  rw [gu, if_neg hi] at h
  subst hw
  exact va_iast hx hb hK hP hD hS q0 0 he rfl hi hd (fun H1 locs1 hP1 hD1 hS1 => kk res h H1 locs1 ls hP1 hD1 hS1 hL)
theorem gg_zald (C : Cx X D T cc own rm) (q0 : Nat) {a N : Nat} {f : Nat → Int32} {i : Int32} (he : ws[q0]? = some (a, .inl (T 1, N, .inl f))) (hd : decode cc pc = .ok (.baload, 1)) (kk : GG X D Q n ws lv (pc + 1) (.int (f i.toNatClampNeg) :: st) o) : GG X D Q n ws lv pc (.int i :: .ref a :: st) (gu i N o) := by
  obtain ⟨p, l, e, R, s, m, args, below, meth, c, A, nL⟩ := X
  obtain ⟨hx, hb, hml, hown, hts, hK, hA, hlk, hR, hSE⟩ := C
  intro res h H locs ls hP hD hS hL
  by_cases hi : i < 0 ∨ N ≤ i.toNatClampNeg
  · rw [gu, if_pos hi] at h; cases h
  rw [gu, if_neg hi] at h
  exact va_zald hx hb hK hP q0 1 he rfl hi hd (kk res h H locs ls hP hD hS hL)
theorem gg_zast (C : Cx X D T cc own rm) (q0 : Nat) {a N : Nat} {f : Nat → Int32} {i x : Int32} (he : ws[q0]? = some (a, .inl (T 1, N, .inl f))) (hd : decode cc pc = .ok (.bastore, 1)) (hw : ws.set q0 (a, .inl (T 1, N, .inl (upd f i.toNatClampNeg (vp_nar .boolean x)))) = ws') (kk : GG X D Q n ws' lv (pc + 1) st o) : GG X D Q n ws lv pc (.int x :: .int i :: .ref a :: st) (gu i N o) := by
  obtain ⟨p, l, e, R, s, m, args, below, meth, c, A, nL⟩ := X
  obtain ⟨hx, hb, hml, hown, hts, hK, hA, hlk, hR, hSE⟩ := C
  intro res h H locs ls hP hD hS hL
  by_cases hi : i < 0 ∨ N ≤ i.toNatClampNeg
  · rw [gu, if_pos hi] at h; cases h
  rw [gu, if_neg hi] at h
  subst hw
  exact va_zast hx hb hK hP hD hS q0 1 he rfl hi hd (fun H1 locs1 hP1 hD1 hS1 => kk res h H1 locs1 ls hP1 hD1 hS1 hL)
theorem gg_alen (C : Cx X D T cc own rm) (q0 : Nat) {a N : Nat} {f : Nat → Int32} {v : Int32} (he : ws[q0]? = some (a, .inl (T 0, N, .inl f))) (hv : Int32.ofNat N = v) (hd : decode cc pc = .ok (.arraylength, 1)) (kk : GG X D Q n ws lv (pc + 1) (.int v :: st) o) : GG X D Q n ws lv pc (.ref a :: st) o := by
  obtain ⟨p, l, e, R, s, m, args, below, meth, c, A, nL⟩ := X
  obtain ⟨hx, hb, hml, hown, hts, hK, hA, hlk, hR, hSE⟩ := C
  intro res h H locs ls hP hD hS hL
  exact va_alen hx hb hK hP q0 0 he (ty := .int) rfl hv hd (kk res h H locs ls hP hD hS hL)
theorem gg_gets (C : Cx X D T cc RX5 rm) {index : Nat} (hlink : Cond.fieldLink RX5 index RX5 "TENS" "[I" ∈ tb) (hd : decode cc pc = .ok (.getstatic index, 3)) (kk : ∀ t : Nat, (∀ {ws : va_W} {lv : List (Nat × Value)} {pc : Nat} {st : List Value} {o : Option ρ} {i : Int32}, decode cc pc = .ok (.iaload, 1) → GG X D Q n ws lv (pc + 1) (.int (tens i.toNatClampNeg) :: st) o → GG X D Q n ws lv pc (.int i :: .ref t :: st) (gu i 10 o)) → GG X D Q n ws lv (pc + 3) (.ref t :: st) o) : GG X D Q n ws lv pc st o := by
  obtain ⟨p, l, e, R, s, m, args, below, meth, c, A, nL⟩ := X
  obtain ⟨hx, hb, hml, hown, hts, hK, hA, hlk, hR, ⟨⟨t, hZ, hT⟩, hSE⟩⟩ := C
  intro res h H locs ls hP hD hS hL
  refine va_gets hx hb hZ hS hown (hts _ hlink) (fun _ q => q) hd (kk t ?_ res h H locs ls hP hD hS hL)
  intro ws lv pc st o i hd kk res h H locs ls hP hD hS hL
  by_cases hi : i < 0 ∨ 10 ≤ i.toNatClampNeg
  · rw [gu, if_pos hi] at h; cases h
  rw [gu, if_neg hi] at h
  exact va_ti hx hb hT hS hi (v := .int (tens i.toNatClampNeg)) rfl hd (kk res h H locs ls hP hD hS hL)
/-! contracts -/
def FF {σ : Type} (vF : σ → Option Value) (wF : σ → va_W) (r : σ) : Option Value → va_W → Prop := fun v w => v = vF r ∧ w = wF r
def KQ (D : va_G) (w : va_W) (sz : Nat) (F : Option Value → va_W → Prop) : Array Value → State → Outcome → State → Prop := fun _ s0 oc t => (∃ (r : Option Value) (w' : va_W), oc = .returned r ∧ F r w' ∧ va_P D vwCl w' t.heap ∧ va_D (va_A w sz) w') ∧ va_F (va_A w sz) s0 t
def Pk (D : va_G) (T : Nat → ClassId) (av : List Value) (w : va_W) (sz : Nat) : Array Value → State → Prop := va_Pc av (fun U => U.heap.size = sz ∧ va_P D vwCl w U.heap ∧ va_K D vwCl (tyL T) U ∧ va_D (fun _ => True) w ∧ SE (va_A w sz) U U.heap)
theorem Pk_blind {D : va_G} {T : Nat → ClassId} {av : List Value} {w : va_W} {sz : Nat} : FrameBlind (Pk D T av w sz) := fun a U g mk q => by
  obtain ⟨q0, q1, qP, qK, qD, qS⟩ := q
  exact ⟨q0, q1, qP, va_K.moved (u := U) (U := U.calling g mk a) (Vm.Alike.refl U.vm) qK, qD, SE.calling qS⟩
def Kt (l : Launch) (D : va_G) (T : Nat → ClassId) (y : MethodName) (b : ByteArray) (mL : Nat) (rt : Option FieldType) (rm : Nat × Nat × Nat × Nat) (av : List Value) (w : va_W) (F : Option Value → va_W → Prop) : Prop := ∀ sz, Met l y (.code y b mL rt :: tb) { frames := rm.1, cells := rm.2.1, slots := rm.2.2.1, locals := rm.2.2.2 } (Pk D T av w sz) (KQ D w sz F) rm.2.1 rm.2.2.1 (va_A w sz)
def MF {σ : Type} (X : KX) (D : va_G) (w : va_W) (Fi : σ → Option Value → va_W → Prop) (mc ms : Nat) : σ → State → Prop := match X with
  | (_, _, _, _, s, _, args, below, _, _, _, _) => fun r => MQ below (KQ D w s.heap.size (Fi r)) args s mc ms (va_A w s.heap.size)
def Cm (X : KX) (rt : Option FieldType) (w : va_W) (nm : String) : Prop := match X with
  | (_, _, _, _, s, _, _, _, meth, _, A, _) => meth.sig.returnType = rt ∧ A = va_A w s.heap.size ∧ meth.name = nm
theorem Cm.init {X : KX} {rt : Option FieldType} {w : va_W} {nm : String} (M : Cm X rt w nm) : (kxM X).name = nm := by
  obtain ⟨p, l, e, R, s, m, args, below, meth, c, A, nL⟩ := X
  exact M.2.2
theorem kt_of {σ : Type} {o : Option σ} {Fi : σ → Option Value → va_W → Prop} {r : σ} {lv : List (Nat × Value)} {l : Launch} {D : va_G} {T : Nat → ClassId} {y : MethodName} {b : ByteArray} {mL : Nat} {rt : Option FieldType} {rm : Nat × Nat × Nat × Nat} {av : List Value} {w : va_W} {own nm : String} (hy : plainName y.cls = true) (hc : y.cls = own) (hnm : y.name = nm) (hlv : lv_args 0 av = lv) (hlen : (lg_sl av).length ≤ mL) (ho : o = some r)
    (walk : ∀ X : KX, kxL X = mL → Cx X D T b own { frames := rm.1, cells := rm.2.1, slots := rm.2.2.1, locals := rm.2.2.2 } → Cm X rt w nm → GG X D (MF X D w Fi rm.2.1 rm.2.2.1) (0, 0) w lv 0 [] o) : Kt l D T y b mL rt rm av w (Fi r) := by
  intro sz
  refine Met.ofW (cc := b) (maxL := mL) (ret := rt) hy rfl ?_
  intro p e s m args below meth c s₁ B hml hv
  obtain ⟨rfl, hsz, hP, hK, hD0, hSE⟩ := hv
  have hx := B.exec
  have hb := B.bytes
  have hr := B.returns
  have hts := atoms_spec (ws := .code y b mL rt :: tb) B.pre
  have hown : s.vm.findClass y.cls = some m.cls := findClass_of_methodNamed B.named
  have hlk := B.notSynchronized
  have hin : meth.name = y.name := (name_of_methodNamed B.named B.method).1
  subst hsz
  have hD := hD0.self (sz := s.heap.size)
  have hl := lv_entry av (n := mL) hlen
  rw [lg_entry_eq]
  generalize (lg_sl av ++ List.replicate (mL - (lg_sl av).length) Slot.unset).toArray = ls at hl ⊢
  rw [hlv] at hl
  exact walk (p, l, e, _, s, m, av.toArray, below, meth, c, va_A w s.heap.size, mL) rfl ⟨hx, hb, hml, by rw [← hc]; exact hown, fun z hz => hts z (List.mem_cons_of_mem _ hz), hK, fun q hq => Or.inr hq, hlk, rfl, hSE⟩ ⟨hr, rfl, hin.trans hnm⟩ r ho s.heap [] ls hP hD va_S.rf hl
section RET
variable {σ : Type} {Fi : σ → Option Value → va_W → Prop} {w : va_W} {r : σ} {nm : String}
theorem gg_iret (C : Cx X D T cc own rm) (M : Cm X (some .int) w nm) {v : Int32} (hd : decode cc pc = .ok (.ireturn, 1)) (hF : Fi r (some (.int v)) ws) : GG X D (MF X D w Fi n.1 n.2) n ws lv pc [.int v] (some r) := by
  obtain ⟨p, l, e, R, s, m, args, below, meth, c, A, nL⟩ := X
  obtain ⟨hx, hb, hml, hown, hts, hK, hA, hlk, hR, hSE⟩ := C
  obtain ⟨hr, rfl, -⟩ := M
  intro res h H locs ls hP hD hS hL
  obtain rfl := Option.some.inj h
  exact W.iret hx hb hr (fun t ht hW => ⟨⟨_, _, rfl, hF, by rw [ht]; exact hP, hD⟩, hS.F ht⟩) hS.2.2 hd
theorem gg_zret (C : Cx X D T cc own rm) (M : Cm X (some .boolean) w nm) {v : Int32} (hd : decode cc pc = .ok (.ireturn, 1)) (hn : narrow .boolean (.int v) = .int v) (hF : Fi r (some (.int v)) ws) : GG X D (MF X D w Fi n.1 n.2) n ws lv pc [.int v] (some r) := by
  obtain ⟨p, l, e, R, s, m, args, below, meth, c, A, nL⟩ := X
  obtain ⟨hx, hb, hml, hown, hts, hK, hA, hlk, hR, hSE⟩ := C
  obtain ⟨hr, rfl, -⟩ := M
  intro res h H locs ls hP hD hS hL
  obtain rfl := Option.some.inj h
  exact W.zret hx hb hr hn (fun t ht hW => ⟨⟨_, _, rfl, hF, by rw [ht]; exact hP, hD⟩, hS.F ht⟩) hS.2.2 hd
theorem gg_zretG (C : Cx X D T cc own rm) (M : Cm X (some .boolean) w nm) {v : Int32} (hd : decode cc pc = .ok (.ireturn, 1)) (hF : Fi r (some (.int v)) ws) : GG X D (MF X D w Fi n.1 n.2) n ws lv pc [.int v] (gz v (some r)) := by
  by_cases hv : v = 0 ∨ v = 1
  · rw [gz, if_pos hv]
    refine gg_zret C M hd ?_ hF
    rcases hv with rfl | rfl <;> rfl
  · rw [gz, if_neg hv]
    exact gg_none
theorem gg_lret (C : Cx X D T cc own rm) (M : Cm X (some .long) w nm) {v : Int64} (hd : decode cc pc = .ok (.lreturn, 1)) (hF : Fi r (some (.long v)) ws) : GG X D (MF X D w Fi n.1 n.2) n ws lv pc [.long v] (some r) := by
  obtain ⟨p, l, e, R, s, m, args, below, meth, c, A, nL⟩ := X
  obtain ⟨hx, hb, hml, hown, hts, hK, hA, hlk, hR, hSE⟩ := C
  obtain ⟨hr, rfl, -⟩ := M
  intro res h H locs ls hP hD hS hL
  obtain rfl := Option.some.inj h
  exact W.lret hx hb hr (fun t ht hW => ⟨⟨_, _, rfl, hF, by rw [ht]; exact hP, hD⟩, hS.F ht⟩) hS.2.2 hd
theorem gg_vret (C : Cx X D T cc own rm) (M : Cm X none w nm) (hd : decode cc pc = .ok (.return_, 1)) (hF : Fi r none ws) : GG X D (MF X D w Fi n.1 n.2) n ws lv pc [] (some r) := by
  obtain ⟨p, l, e, R, s, m, args, below, meth, c, A, nL⟩ := X
  obtain ⟨hx, hb, hml, hown, hts, hK, hA, hlk, hR, hSE⟩ := C
  obtain ⟨hr, rfl, -⟩ := M
  intro res h H locs ls hP hD hS hL
  obtain rfl := Option.some.inj h
  exact W.vret hx hb hr (fun t ht hW => ⟨⟨_, _, rfl, hF, by rw [ht]; exact hP, hD⟩, hS.F ht⟩) hS.2.2 hd
theorem gg_wid {n2 : Nat × Nat} (h1 : n.1 ≤ n2.1) (h2 : n.2 ≤ n2.2) (kk : GG X D Q n2 ws lv pc st o) : GG X D Q n ws lv pc st o := by
  obtain ⟨p, l, e, R, s, m, args, below, meth, c, A, nL⟩ := X
  intro res h H locs ls hP hD hS hL
  exact W.widen h1 h2 (kk res h H locs ls hP hD hS hL)
end RET
/-! calls: the callee's cells are picked out of the world by their places, and put back there -/
theorem va_D_adr {A : Nat → Prop} {ws ws' : va_W} (h : va_D A ws) (e : ws'.map Prod.fst = ws.map Prod.fst) : va_D A ws' := by
  have key : ∀ (k : Nat) (q : Nat × va_E), ws'[k]? = some q → ∃ q', ws[k]? = some q' ∧ q'.1 = q.1 := by
    intro k q hq
    have h1 : (ws'.map Prod.fst)[k]? = some q.1 := by rw [List.getElem?_map, hq]; rfl
    rw [e, List.getElem?_map] at h1
    cases hw : ws[k]? with
    | none => rw [hw] at h1; cases h1
    | some q' => rw [hw] at h1; exact ⟨q', rfl, Option.some.inj h1⟩
  refine ⟨fun i j p q hp hq hpq => ?_, fun k q hq => ?_⟩
  · obtain ⟨p', h1, h2⟩ := key i p hp
    obtain ⟨q', h3, h4⟩ := key j q hq
    exact h.1 i j p' q' h1 h3 (by rw [h2, h4, hpq])
  · obtain ⟨q', h1, h2⟩ := key k q hq
    rw [← h2]
    exact h.2 k q' h1
theorem pick_at {ws wc : va_W} {isC : List Nat} (hC : isC.map (fun i => ws[i]?) = wc.map some) : ∀ (k : Nat) (q : Nat × va_E), wc[k]? = some q → ∃ i, isC[k]? = some i ∧ ws[i]? = some q := by
  intro k q hq
  have h1 : (isC.map (fun i => ws[i]?))[k]? = some (some q) := by rw [hC, List.getElem?_map, hq]; rfl
  rw [List.getElem?_map] at h1
  cases hi : isC[k]? with
  | none => rw [hi] at h1; cases h1
  | some i => rw [hi] at h1; exact ⟨i, rfl, Option.some.inj h1⟩
theorem pick_P {D : va_G} {cl : List vw_C} {H : Heap} {ws wc : va_W} {isC : List Nat} (hC : isC.map (fun i => ws[i]?) = wc.map some) (hP : va_P D cl ws H) : va_P D cl wc H := fun k q hq => by
  obtain ⟨i, -, h2⟩ := pick_at hC k q hq
  exact hP i q h2
def pickL : va_W → List Nat → va_W
  | _, [] => []
  | ws, i :: is => match ws[i]? with
    | some c => c :: pickL ws is
    | none => pickL ws is
def pickM : va_W → List Nat → va_W
  | _, [] => []
  | ws, i :: is => match ws[i]? with
    | some c => c :: pickM ws is
    | none => pickM ws is
def adrL : va_W → List Nat
  | [] => []
  | c :: cs => c.1 :: adrL cs
def adrM : va_W → List Nat
  | [] => []
  | c :: cs => c.1 :: adrM cs
theorem adrL_eq : ∀ ws : va_W, adrL ws = ws.map Prod.fst
  | [] => rfl
  | c :: cs => by rw [adrL, adrL_eq cs, List.map_cons]
theorem adrM_eq : ∀ ws : va_W, adrM ws = ws.map Prod.fst
  | [] => rfl
  | c :: cs => by rw [adrM, adrM_eq cs, List.map_cons]
theorem pickM_eq (ws : va_W) : ∀ is : List Nat, pickM ws is = pickL ws is
  | [] => rfl
  | i :: is => by
    rw [pickM, pickL, pickM_eq ws is]
theorem pickL_map (ws : va_W) : ∀ is : List Nat, (∀ i ∈ is, i < ws.length) → is.map (fun i => ws[i]?) = (pickL ws is).map some
  | [], _ => rfl
  | i :: is, h => by
    obtain ⟨c, hi⟩ : ∃ c, ws[i]? = some c := ⟨_, List.getElem?_eq_getElem (h i List.mem_cons_self)⟩
    rw [List.map_cons, pickL_map ws is (fun k hk => h k (List.mem_cons_of_mem _ hk)), pickL, hi]
    rfl
/-- the callee's world wc is part of ws; with wF r in its place the world is ws2 r -/
def Cut {σ : Type} (ws wc : va_W) (wF ws2 : σ → va_W) : Prop := (∃ isC, va_nd isC = true ∧ isC.map (fun i => ws[i]?) = wc.map some) ∧ ∀ (r : σ) (D : va_G) (A : Nat → Prop) (H H1 : Heap), va_P D vwCl ws H → va_D A ws → (∀ q : Nat, q < H.size → ¬ va_A wc H.size q → H1[q]? = H[q]?) → va_P D vwCl (wF r) H1 → va_P D vwCl (ws2 r) H1 ∧ va_D A (ws2 r)
theorem cut_none {σ : Type} {ws : va_W} : Cut (σ := σ) ws [] (fun _ => []) (fun _ => ws) :=
  ⟨⟨[], rfl, rfl⟩, fun r D A H H1 hP hD hk hP1 => ⟨hP.kept (fun k q hq => hk q.1 (hP k q hq).lt (fun z => by
    rcases z with ⟨k2, e, z⟩ | z
    · simp at z
    · have := (hP k q hq).lt; omega)), hD⟩⟩
theorem range_pick (ws : va_W) : (List.range ws.length).map (fun i => ws[i]?) = ws.map some := by
  apply List.ext_getElem?
  intro k
  rw [List.getElem?_map, List.getElem?_map]
  by_cases hk : k < ws.length
  · rw [List.getElem?_range hk, List.getElem?_eq_getElem hk]
    simp [List.getElem?_eq_getElem hk]
  · rw [List.getElem?_eq_none (by simpa using hk), List.getElem?_eq_none (by omega)]
    rfl
theorem va_nd_of : ∀ (l : List Nat), l.Nodup → va_nd l = true
  | [], _ => rfl
  | a :: l, h => by
    have h2 := List.nodup_cons.mp h
    simp [va_nd, va_nd_of l h2.2, h2.1]
theorem cut_full {σ : Type} {ws : va_W} {wF : σ → va_W} (hA2 : ∀ r, adrL (wF r) = adrM ws) : Cut ws ws wF wF :=
  ⟨⟨List.range ws.length, va_nd_of _ List.nodup_range, range_pick ws⟩, fun r D A H H1 hP hD hk hP1 => ⟨hP1, va_D_adr hD (by rw [← adrL_eq, hA2 r, adrM_eq])⟩⟩
theorem cut_part {σ : Type} {ws wc : va_W} {wF ws2 : σ → va_W} (N : Nat) (isC isR : List Nat) (hN : ws.length = N) (hcov : ((isC.all (fun i => decide (i < N))) && (isR.all (fun i => decide (i < N) && !isC.contains i)) && (List.range N).all (fun i => isC.contains i || isR.contains i) && va_nd isC) = true) (hC : pickL ws isC = wc) (hA2 : ∀ r, adrL (ws2 r) = adrM ws) (hC2 : ∀ r, pickL (ws2 r) isC = wF r) (hR2 : ∀ r, pickL (ws2 r) isR = pickM ws isR) : Cut ws wc wF ws2 := by
  simp only [Bool.and_eq_true, List.all_eq_true, decide_eq_true_eq, Bool.or_eq_true, List.contains_iff_mem, Bool.not_eq_true', List.mem_range] at hcov
  obtain ⟨⟨⟨h1, h2⟩, h3⟩, h4⟩ := hcov
  subst hN
  have hCo : isC.map (fun i => ws[i]?) = wc.map some := by rw [← hC]; exact pickL_map ws isC h1
  refine ⟨⟨isC, h4, hCo⟩, fun r D A H H1 hP hD hk hP1 => ?_⟩
  have ha : (ws2 r).map Prod.fst = ws.map Prod.fst := by rw [← adrL_eq, hA2 r, adrM_eq]
  have hl : (ws2 r).length = ws.length := by
    have := congrArg List.length ha
    simpa using this
  refine ⟨?_, va_D_adr hD ha⟩
  intro k q hq
  have hkl : k < ws.length := by rw [← hl]; exact (List.getElem?_eq_some_iff.mp hq).1
  rcases h3 k hkl with hm | hm
  · obtain ⟨j, hj⟩ := List.getElem?_of_mem hm
    have e := pickL_map (ws2 r) isC (fun i hi => by rw [hl]; exact h1 i hi)
    rw [hC2 r] at e
    have e2 : (isC.map (fun i => (ws2 r)[i]?))[j]? = some (some q) := by rw [List.getElem?_map, hj]; simp [hq]
    rw [e, List.getElem?_map] at e2
    cases hw : (wF r)[j]? with
    | none => rw [hw] at e2; cases e2
    | some q' =>
      rw [hw] at e2
      have : q' = q := Option.some.inj (Option.some.inj e2)
      subst this
      exact hP1 j q' hw
  · obtain ⟨j, hj⟩ := List.getElem?_of_mem hm
    have e := pickL_map (ws2 r) isR (fun i hi => by rw [hl]; exact (h2 i hi).1)
    rw [hR2 r, pickM_eq, ← pickL_map ws isR (fun i hi => (h2 i hi).1)] at e
    have e2 : (isR.map (fun i => (ws2 r)[i]?))[j]? = some (some q) := by rw [List.getElem?_map, hj]; simp [hq]
    rw [e, List.getElem?_map, hj] at e2
    have e3 : ws[k]? = some q := Option.some.inj e2
    refine (hP k q e3).kept (hk q.1 (hP k q e3).lt ?_)
    intro hin
    rcases hin with ⟨k2, e, hin⟩ | hin
    · obtain ⟨i, h5, h6⟩ := pick_at hCo k2 (q.1, e) hin
      have hij := hD.1 k i q (q.1, e) e3 h6 rfl
      subst hij
      have h7 := (h2 k hm).2
      have h8 := List.mem_of_getElem? h5
      simp_all
    · have := (hP k q e3).lt
      omega
theorem w_call {σ : Type} {vF : σ → Option Value} {wF ws2 : σ → va_W} {r : σ} {p : Program} {l : Launch} {e : Env} {R : Room} {s : State} {m : MethodId} {args a : Array Value} {below : List Frame} {meth : Method} {c : Code} {H : Heap} {locs : List Loc} {cells slots pc : Nat} {Q : State → Prop} {ls : Array Slot} {st0 rest : List Value} {D : va_G} {ws wc : va_W} {A : Nat → Prop}
    (hr : va_Run p l e R s m args below meth c H locs cells slots 0 0 (F0 m pc ls st0) rest (KQ D wc H.size (FF vF wF r) a) (va_A wc H.size)) (hP : va_P D vwCl ws H) (hD : va_D A ws) (hS : va_S A s.heap H locs) (hF2 : ∀ q, va_A wc H.size q → A q) (hcut : Cut ws wc wF ws2)
    (kk : ∀ (H1 : Heap) (locs1 : List Loc), va_P D vwCl (ws2 r) H1 → va_D A (ws2 r) → va_S A s.heap H1 locs1 → W p l e R s m args below meth c H1 locs1 cells slots Q (F0 m (pc + 3) ls ((vF r).toList ++ rest))) : W p l e R s m args below meth c H locs cells slots Q (F0 m pc ls st0) := by
  intro T0 hT0 Y
  obtain ⟨v, st₀, t, T', L, h0, Y', hL, e1, e2, ⟨⟨r', w', ho, ⟨hv, hw⟩, hP1, hD1⟩, hF⟩, st⟩ := hr T0 hT0 Y
  cases ho
  subst hv; subst hw
  have hk : ∀ q : Nat, q < H.size → ¬ va_A wc H.size q → t.heap[q]? = H[q]? := fun q h1 h2 => by rw [← h0]; exact hF.2 q (by rw [h0]; exact h1) h2
  have hz : H.size ≤ t.heap.size := by rw [← h0]; exact hF.1
  obtain ⟨hP2, hD2⟩ := hcut.2 r D A H t.heap hP hD hk hP1
  obtain ⟨t2, a1, b1⟩ := kk t.heap (locs ++ L) hP2 hD2 ⟨Nat.le_trans hS.1 hz, fun q h1 h2 => (hk q (Nat.lt_of_lt_of_le h1 hS.1) (fun z => h2 (hF2 q z))).trans (hS.2.1 q h1 h2), fun z hz => (List.mem_append.mp hz).elim (hS.2.2 z) (fun q => hF2 _ (hL z q))⟩ T' e1 Y'
  exact ⟨t2, st t2 a1, b1⟩
def LkV (own : String) (idx : Nat) (C0 : String) (y : MethodName) (b : ByteArray) (mL : Nat) (rt : Option FieldType) (na : Nat) : Prop := (Cond.methodLink own idx y ∈ tb ∧ Cond.instanceMethod y ∈ tb ∧ Cond.selects C0 y y ∈ tb ∧ Cond.initialized C0 ∈ tb ∧ Cond.code y b mL rt ∈ tb) ∧ y.cls = C0 ∧ y.cls ≠ "java/lang/invoke/MethodHandle" ∧ y.cls ≠ "java/lang/invoke/VarHandle" ∧ (parseMethodDescriptor y.desc).map (fun d => d.parameters.length) = some na
def LkS (own : String) (idx : Nat) (y : MethodName) (b : ByteArray) (mL : Nat) (rt : Option FieldType) (na : Nat) : Prop := (Cond.methodLink own idx y ∈ tb ∧ Cond.static y ∈ tb ∧ Cond.initialized y.cls ∈ tb ∧ Cond.code y b mL rt ∈ tb) ∧ y.cls ≠ "java/lang/invoke/MethodHandle" ∧ y.cls ≠ "java/lang/invoke/VarHandle" ∧ (parseMethodDescriptor y.desc).map (fun d => d.parameters.length) = some na
def LkN (own : String) (idx : Nat) (y : MethodName) (b : ByteArray) (mL : Nat) (rt : Option FieldType) (na : Nat) : Prop := ((own, idx, y, "CradleHour") ∈ nestQ ∧ Cond.static y ∈ tb ∧ Cond.initialized y.cls ∈ tb ∧ Cond.code y b mL rt ∈ tb) ∧ y.cls ≠ "java/lang/invoke/MethodHandle" ∧ y.cls ≠ "java/lang/invoke/VarHandle" ∧ (parseMethodDescriptor y.desc).map (fun d => d.parameters.length) = some na
def LkI (own : String) (idx : Nat) (y : MethodName) (b : ByteArray) (mL : Nat) (na : Nat) : Prop := (Cond.methodLink own idx y ∈ tb ∧ Cond.instanceMethod y ∈ tb ∧ Cond.initialized y.cls ∈ tb ∧ Cond.code y b mL none ∈ tb) ∧ y.name = "<init>" ∧ y.cls ≠ "java/lang/invoke/MethodHandle" ∧ y.cls ≠ "java/lang/invoke/VarHandle" ∧ (parseMethodDescriptor y.desc).map (fun d => d.parameters.length) = some na
theorem tb_in {ws : List Cond} (h : ∀ w ∈ ws, w ∈ tb) : GoodIn tb ws := fun w hw => ⟨h w hw, good_of_word (List.mem_filter.mp (h w hw)).2⟩
theorem tb_c {w : Cond} (h : w ∈ tb) : ∀ z ∈ w :: tb, z ∈ tb := fun z hz => (List.mem_cons.mp hz).elim (fun e => e ▸ h) id
section CALL
variable {σ : Type} {fm : Option σ} {k : σ → Option ρ} {vF : σ → Option Value} {wF : σ → va_W} {y : MethodName} {b : ByteArray} {mL idx na : Nat} {rt : Option FieldType} {fr lo : Nat} {wc : va_W} {As rest : List Value} {st2 : σ → List Value} {ws2 : σ → va_W}
theorem gg_callV (C : Cx X D T cc own rm) {C0 : String} {a ci N : Nat} {Tt : u_T} (hM : ∀ (l : Launch) r, fm = some r → Kt l D T y b mL rt (fr, 0, 0, lo) (.ref a :: As) wc (FF vF wF r)) (L : LkV own idx C0 y b mL rt na) (hrm : fr + 1 ≤ rm.frames ∧ 8 + (mL + 11) + lo ≤ rm.locals) (hnn : n.1 ≤ rm.cells ∧ n.2 ≤ rm.slots) (hna : As.length = na) (hst : st = As.reverse ++ .ref a :: rest) (hcat : (rest.map fun v => v.category).sum ≤ 8) (q0 : Nat) {fs : List Value} (hq : ws[q0]? = some (a, .inr (ci, fs))) (hcl : vwCl[ci]? = some (C0, Tt, N)) (hd : decode cc pc = .ok (.invokevirtual idx, 3)) (hcut : Cut ws wc wF ws2) (hs : ∀ r, (vF r).toList ++ rest = st2 r) (kk : ∀ r, GG X D Q n (ws2 r) lv (pc + 3) (st2 r) (k r)) : GG X D Q n ws lv pc st (jn fm k) := by
  obtain ⟨p, l, e, R, s, m, args, below, meth, c, A, nL⟩ := X
  obtain ⟨hx, hb, hml, hown, hts, hK, hA, hlk, hR, hSE⟩ := C
  intro res h H locs ls hP hD hS hL
  cases hfm : fm with
  | none => rw [hfm] at h; cases h
  | some r =>
    rw [hfm] at h
    subst hst
    obtain ⟨isC, hnd, hC⟩ := hcut.1
    have hF2 : ∀ q, va_A wc H.size q → A q := va_free hD hS hA isC hC
    have hPc : va_P D vwCl wc H := pick_P hC hP
    have hDc := hD.sub isC hnd hC
    have hSc : SE (va_A wc H.size) s H := (hSE.kept (fun q h1 h2 => hS.2.1 q h1 h2)).narrow hF2
    obtain ⟨⟨L1, L2, L3, L4, L5⟩, L6⟩ := L
    have hG : GoodIn tb (wsV own idx C0 y (.code y b mL rt :: tb)) := tb_in (fun w hw => by
      unfold wsV at hw
      simp only [List.cons_append, List.nil_append, List.mem_cons] at hw
      rcases hw with rfl | rfl | rfl | rfl | rfl | hw
      · exact L1
      · exact L2
      · exact L3
      · exact L4
      · exact L5
      · exact hw)
    subst hR
    refine w_call (r := r) (va_runV (As := As) (rest := rest) (b := a) ⟨hx, hb, hml, hown, hts⟩ (hM l r hfm H.size) (cwV na hts hG rfl rfl rfl L6 hrm) ⟨Pk_blind, va_recv hK hP hcl hq, fun U hU hW => ⟨rfl, by rw [hU], by rw [hU]; exact hPc, va_K.moved hW.alike hK, hDc.weaken (fun _ _ _ _ => trivial), by rw [hU]; exact hSc.warm hW⟩⟩ rfl hna hL.1 rfl (lv_room hcat) hd hnn) hP hD hS hF2 hcut (fun H1 locs1 hP1 hD1 hS1 => ?_)
    rw [hs r]
    exact kk r res h H1 locs1 ls hP1 hD1 hS1 hL
theorem gg_callS (C : Cx X D T cc own rm) (hM : ∀ (l : Launch) r, fm = some r → Kt l D T y b mL rt (fr, 0, 0, lo) As wc (FF vF wF r)) (L : LkS own idx y b mL rt na) (hrm : fr + 1 ≤ rm.frames ∧ 8 + (mL + 11) + lo ≤ rm.locals) (hnn : n.1 ≤ rm.cells ∧ n.2 ≤ rm.slots) (hna : As.length = na) (hst : st = As.reverse ++ rest) (hcat : (rest.map fun v => v.category).sum ≤ 8) (hd : decode cc pc = .ok (.invokestatic idx, 3)) (hcut : Cut ws wc wF ws2) (hs : ∀ r, (vF r).toList ++ rest = st2 r) (kk : ∀ r, GG X D Q n (ws2 r) lv (pc + 3) (st2 r) (k r)) : GG X D Q n ws lv pc st (jn fm k) := by
  obtain ⟨p, l, e, R, s, m, args, below, meth, c, A, nL⟩ := X
  obtain ⟨hx, hb, hml, hown, hts, hK, hA, hlk, hR, hSE⟩ := C
  intro res h H locs ls hP hD hS hL
  cases hfm : fm with
  | none => rw [hfm] at h; cases h
  | some r =>
    rw [hfm] at h
    subst hst
    obtain ⟨isC, hnd, hC⟩ := hcut.1
    have hF2 : ∀ q, va_A wc H.size q → A q := va_free hD hS hA isC hC
    have hPc : va_P D vwCl wc H := pick_P hC hP
    have hDc := hD.sub isC hnd hC
    have hSc : SE (va_A wc H.size) s H := (hSE.kept (fun q h1 h2 => hS.2.1 q h1 h2)).narrow hF2
    obtain ⟨⟨L1, L2, L3, L4⟩, L6⟩ := L
    have hG : GoodIn tb (va_wsS own idx y (.code y b mL rt :: tb)) := tb_in (fun w hw => by
      unfold va_wsS at hw
      simp only [List.cons_append, List.nil_append, List.mem_cons] at hw
      rcases hw with rfl | rfl | rfl | rfl | hw
      · exact L1
      · exact L2
      · exact L3
      · exact L4
      · exact hw)
    subst hR
    refine w_call (r := r) (va_runS (As := As) (rest := rest) ⟨hx, hb, hml, hown, hts⟩ (hM l r hfm H.size) (va_cwS na hts hG rfl rfl rfl L6 hrm) ⟨Pk_blind, fun U hU hW => ⟨rfl, by rw [hU], by rw [hU]; exact hPc, va_K.moved hW.alike hK, hDc.weaken (fun _ _ _ _ => trivial), by rw [hU]; exact hSc.warm hW⟩⟩ rfl hna hL.1 rfl (lv_room hcat) hd hnn) hP hD hS hF2 hcut (fun H1 locs1 hP1 hD1 hS1 => ?_)
    rw [hs r]
    exact kk r res h H1 locs1 ls hP1 hD1 hS1 hL
theorem gg_callN (C : Cx X D T cc own rm) (hM : ∀ (l : Launch) r, fm = some r → Kt l D T y b mL rt (fr, 0, 0, lo) As wc (FF vF wF r)) (L : LkN own idx y b mL rt na) (hrm : fr + 1 ≤ rm.frames ∧ 8 + (mL + 11) + lo ≤ rm.locals) (hnn : n.1 ≤ rm.cells ∧ n.2 ≤ rm.slots) (hna : As.length = na) (hst : st = As.reverse ++ rest) (hcat : (rest.map fun v => v.category).sum ≤ 8) (hd : decode cc pc = .ok (.invokestatic idx, 3)) (hcut : Cut ws wc wF ws2) (hs : ∀ r, (vF r).toList ++ rest = st2 r) (kk : ∀ r, GG X D Q n (ws2 r) lv (pc + 3) (st2 r) (k r)) : GG X D Q n ws lv pc st (jn fm k) := by
  obtain ⟨p, l, e, R, s, m, args, below, meth, c, A, nL⟩ := X
  obtain ⟨hx, hb, hml, hown, hts, hK, hA, hlk, hR, hSE⟩ := C
  intro res h H locs ls hP hD hS hL
  cases hfm : fm with
  | none => rw [hfm] at h; cases h
  | some r =>
    rw [hfm] at h
    subst hst
    obtain ⟨isC, hnd, hC⟩ := hcut.1
    have hF2 : ∀ q, va_A wc H.size q → A q := va_free hD hS hA isC hC
    have hPc : va_P D vwCl wc H := pick_P hC hP
    have hDc := hD.sub isC hnd hC
    have hSc : SE (va_A wc H.size) s H := (hSE.kept (fun q h1 h2 => hS.2.1 q h1 h2)).narrow hF2
    obtain ⟨⟨L1, L2, L3, L4⟩, L6⟩ := L
    have hG : GoodIn tb (Cond.code y b mL rt :: tb) := tb_in (tb_c L4)
    subst hR
    refine w_call (r := r) (va_runSN (As := As) (rest := rest) ⟨hx, hb, hml, hown, hts⟩ (hM l r hfm H.size) ⟨va_cnB na hts hG rfl rfl rfl (hSE.2.2.2 _ L1) (hts _ L3) L6 hrm, hts _ L2, trivial⟩ ⟨Pk_blind, fun U hU hW => ⟨rfl, by rw [hU], by rw [hU]; exact hPc, va_K.moved hW.alike hK, hDc.weaken (fun _ _ _ _ => trivial), by rw [hU]; exact hSc.warm hW⟩⟩ rfl hna hL.1 rfl (lv_room hcat) hd hnn) hP hD hS hF2 hcut (fun H1 locs1 hP1 hD1 hS1 => ?_)
    rw [hs r]
    exact kk r res h H1 locs1 ls hP1 hD1 hS1 hL
end CALL

theorem gg_mmax (C : Cx X D T cc own rm) {idx : Nat} {x y : Int32} (hlink : Cond.methodLink own idx Lib.Math.max.name ∈ tb) (hstat : Cond.static Lib.Math.max.name ∈ tb) (hini : Cond.initialized "java/lang/Math" ∈ tb) (hcode : Cond.code Lib.Math.max.name Lib.Math.max.code 2 (some .int) ∈ tb) (hfr : 1 ≤ rm.frames) (hsum : (st.map fun v => v.category).sum + 13 ≤ rm.locals) (hnn : n.1 ≤ rm.cells ∧ n.2 ≤ rm.slots) (hd : decode cc pc = .ok (.invokestatic idx, 3)) (kk : GG X D Q n ws lv (pc + 3) (.int (if x < y then y else x) :: st) o) : GG X D Q n ws lv pc (.int y :: .int x :: st) o := by
  obtain ⟨p, l, e, R, s, m, args, below, meth, c, A, nL⟩ := X
  obtain ⟨hx, hb, hml, hown, hts, hK, hA, hlk, hR, hSE⟩ := C
  intro res h H locs ls hP hD hS hL
  subst hR
  exact va_mmax hx hb (hml.trans hL.1.symm) hown (hts _ hlink) (hts _ hstat) (hts _ hini) (hts _ hcode) hfr hsum hnn.1 hnn.2 hd (kk res h H locs ls hP hD hS hL)
theorem gg_mmin (C : Cx X D T cc own rm) {idx : Nat} {x y : Int32} (hlink : Cond.methodLink own idx Lib.Math.min.name ∈ tb) (hstat : Cond.static Lib.Math.min.name ∈ tb) (hini : Cond.initialized "java/lang/Math" ∈ tb) (hcode : Cond.code Lib.Math.min.name Lib.Math.min.code 2 (some .int) ∈ tb) (hfr : 1 ≤ rm.frames) (hsum : (st.map fun v => v.category).sum + 13 ≤ rm.locals) (hnn : n.1 ≤ rm.cells ∧ n.2 ≤ rm.slots) (hd : decode cc pc = .ok (.invokestatic idx, 3)) (kk : GG X D Q n ws lv (pc + 3) (.int (if y < x then y else x) :: st) o) : GG X D Q n ws lv pc (.int y :: .int x :: st) o := by
  obtain ⟨p, l, e, R, s, m, args, below, meth, c, A, nL⟩ := X
  obtain ⟨hx, hb, hml, hown, hts, hK, hA, hlk, hR, hSE⟩ := C
  intro res h H locs ls hP hD hS hL
  subst hR
  exact va_mmin hx hb (hml.trans hL.1.symm) hown (hts _ hlink) (hts _ hstat) (hts _ hini) (hts _ hcode) hfr hsum hnn.1 hnn.2 hd (kk res h H locs ls hP hD hS hL)
theorem gg_mabs (C : Cx X D T cc own rm) {idx : Nat} {x : Int32} (hlink : Cond.methodLink own idx Lib.Math.abs.name ∈ tb) (hstat : Cond.static Lib.Math.abs.name ∈ tb) (hini : Cond.initialized "java/lang/Math" ∈ tb) (hcode : Cond.code Lib.Math.abs.name Lib.Math.abs.code 1 (some .int) ∈ tb) (hfr : 1 ≤ rm.frames) (hsum : (st.map fun v => v.category).sum + 13 ≤ rm.locals) (hnn : n.1 ≤ rm.cells ∧ n.2 ≤ rm.slots) (hd : decode cc pc = .ok (.invokestatic idx, 3)) (kk : GG X D Q n ws lv (pc + 3) (.int (if 0 ≤ x then x else 0 - x) :: st) o) : GG X D Q n ws lv pc (.int x :: st) o := by
  obtain ⟨p, l, e, R, s, m, args, below, meth, c, A, nL⟩ := X
  obtain ⟨hx, hb, hml, hown, hts, hK, hA, hlk, hR, hSE⟩ := C
  intro res h H locs ls hP hD hS hL
  subst hR
  exact va_mabs hx hb (hml.trans hL.1.symm) hown (hts _ hlink) (hts _ hstat) (hts _ hini) (hts _ hcode) hfr hsum hnn.1 hnn.2 hd (kk res h H locs ls hP hD hS hL)
theorem gg_copy (C : Cx X D T cc own rm) {idx : Nat} (hlink : Cond.methodLink own idx arraycopyName ∈ tb) (hnat : Cond.native arraycopyName ∈ tb) (hstat : Cond.static arraycopyName ∈ tb) (hini : Cond.initialized "java/lang/System" ∈ tb) (hfr : 1 ≤ rm.frames) (hsum : (st.map fun v => v.category).sum + (nativeFrameWords "java/lang/System" "arraycopy" 5 + 11) ≤ rm.locals) (q0 q1 : Nat) {a0 a1 n0 n1 : Nat} {f g : Nat → Int32} {sp dp z : Int32} {sp' dp' z' : Nat} (ha0 : ws[q0]? = some (a0, .inl (T 0, n0, .inl f))) (ha1 : ws[q1]? = some (a1, .inl (T 0, n1, .inl g))) (h1 : ¬ sp < 0) (h2 : ¬ dp < 0) (h3 : ¬ z < 0) (e1 : sp.toNatClampNeg = sp') (e2 : dp.toNatClampNeg = dp') (e3 : z.toNatClampNeg = z') (h4 : sp' + z' ≤ n0) (h5 : dp' + z' ≤ n1) (hd : decode cc pc = .ok (.invokestatic idx, 3)) (hw : ws.set q1 (a1, .inl (T 0, n1, .inl (va_cpy f g sp' dp' z'))) = ws') (kk : GG X D Q n ws' lv (pc + 3) st o) : GG X D Q n ws lv pc (.int z :: .int dp :: .ref a1 :: .int sp :: .ref a0 :: st) o := by
  obtain ⟨p, l, e, R, s, m, args, below, meth, c, A, nL⟩ := X
  obtain ⟨hx, hb, hml, hown, hts, hK, hA, hlk, hR, hSE⟩ := C
  intro res h H locs ls hP hD hS hL
  subst hR; subst e1; subst e2; subst e3; subst hw
  exact va_copyi hx hb (hml.trans hL.1.symm) hown (hts _ hlink) (hts _ hnat) (hts _ hstat) (hts _ hini) hK hP hD hS q0 q1 0 0 ha0 ha1 (ty := .int) rfl rfl rfl h1 h2 h3 h4 h5 (fun _ _ => rfl) hfr hsum hd (fun H1 locs1 hP1 hD1 hS1 => kk res h H1 locs1 ls hP1 hD1 hS1 hL)
theorem gg_ldc (C : Cx X D T cc own rm) {idx : Nat} {v : Int32} (hcon : Cond.constant own idx v ∈ tb) (hd : decode cc pc = .ok (.ldc idx, 2)) (kk : GG X D Q n ws lv (pc + 2) (.int v :: st) o) : GG X D Q n ws lv pc st o := by
  obtain ⟨p, l, e, R, s, m, args, below, meth, c, A, nL⟩ := X
  obtain ⟨hx, hb, hml, hown, hts, hK, hA, hlk, hR, hSE⟩ := C
  intro res h H locs ls hP hD hS hL
  exact lv_ldc hx hb hown (hts _ hcon) hd (kk res h H locs ls hP hD hS hL)
theorem gg_ldc2 (C : Cx X D T cc own rm) {idx : Nat} {v : Int64} (hcon : Cond.constantLong own idx v ∈ tb) (hd : decode cc pc = .ok (.ldc2_w idx, 3)) (kk : GG X D Q n ws lv (pc + 3) (.long v :: st) o) : GG X D Q n ws lv pc st o := by
  obtain ⟨p, l, e, R, s, m, args, below, meth, c, A, nL⟩ := X
  obtain ⟨hx, hb, hml, hown, hts, hK, hA, hlk, hR, hSE⟩ := C
  intro res h H locs ls hP hD hS hL
  exact lv_ldc2 hx hb hown (hts _ hcon) hd (kk res h H locs ls hP hD hS hL)
end GGR
