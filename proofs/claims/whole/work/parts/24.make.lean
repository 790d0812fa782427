/-! objects and rows that are made; constructors -/
def adf (l : List Nat) : Nat → Nat := fun i => l.getD i 0
section GGN
variable {ρ : Type} {X : KX} {D : va_G} {T : Nat → ClassId} {Q : ρ → State → Prop} {n n2 : Nat × Nat} {ws ws' : va_W} {lv lv' : List (Nat × Value)} {pc : Nat} {st : List Value} {o o1 o2 : Option ρ} {cc : ByteArray} {own : String} {rm : Room}
theorem gg_cw (hw : ws = ws') (kk : GG X D Q n ws' lv pc st o) : GG X D Q n ws lv pc st o := hw ▸ kk
theorem gg_fold (a0 : Nat → Nat) (wF : (Nat → Nat) → va_W) (lF : (Nat → Nat) → List (Nat × Value)) (h : Nat) (hw : ws = wF a0) (hl : lv = lF a0) (h0 : a0 0 = h) (kk : ∀ a, a 0 = h → GG X D Q n (wF a) (lF a) pc st o) : GG X D Q n ws lv pc st o := by
  subst hw; subst hl
  exact kk a0 h0
theorem gg_objInit (C : Cx X D T cc own rm) {idx a : Nat} (hlink : Cond.methodLink own idx objectInit ∈ tb) (hinst : Cond.instanceMethod objectInit ∈ tb) (hcode : Cond.code objectInit ⟨#[0xb1]⟩ 1 none ∈ tb) (hfr : 1 ≤ rm.frames) (hsum : (st.map fun v => v.category).sum + 12 ≤ rm.locals) (hd : decode cc pc = .ok (.invokespecial idx, 3)) (kk : GG X D Q n ws lv (pc + 3) st o) : GG X D Q n ws lv pc (.ref a :: st) o := by
  obtain ⟨p, l, e, R, s, m, args, below, meth, c, A, nL⟩ := X
  obtain ⟨hx, hb, hml, hown, hts, hK, hA, hlk, hR, hSE⟩ := C
  intro res h H locs ls hP hD hS hL
  subst hR
  refine W.objInit hx hb hown (hts _ hlink) (hts _ hinst) (hts _ hcode) rfl (by rw [hml]; exact hL.1) rfl hd hfr (by show 2 * 0 + _ + 12 ≤ _; omega) ?_
  exact kk res h H locs ls hP hD hS hL
theorem gg_new (C : Cx X D T cc own rm) {Cn : String} {Tt : u_T} {N ci index : Nat} (hin : ∀ w ∈ u_ws Cn Tt N, w ∈ tb) (ty : Nat → FieldType) (hty : ∀ k, k < N → parseFieldDescriptor (Tt k).2.2.1 = some (ty k)) (hcl : Cond.classLink own index Cn ∈ tb) (hinst : Cond.instantiable Cn N ∈ tb) (hini : Cond.initialized Cn ∈ tb) (hc : vwCl[ci]? = some (Cn, Tt, N)) {fs : List Value} (hfs : ∀ j, j < N → defaultValue (ty j) = vp_V fs j) (hcells : n.1 + 1 ≤ rm.cells) (hslots : n.2 + N ≤ rm.slots) (hn2 : (n.1 + 1, n.2 + N) = n2) (hd : decode cc pc = .ok (.new index, 3)) {wq : Nat → va_W} (hw : ∀ q, ws ++ [(q, .inr (ci, fs))] = wq q) (kk : ∀ q, GG X D Q n2 (wq q) lv (pc + 3) (.ref q :: st) o) : GG X D Q n ws lv pc st o := by
  obtain ⟨p, l, e, R, s, m, args, below, meth, c, A, nL⟩ := X
  obtain ⟨hx, hb, hml, hown, hts, hK, hA, hlk, hR, hSE⟩ := C
  intro res h H locs ls hP hD hS hL
  subst hR; subst hn2
  refine va_new hx hb hts hin ty hty hown (hts _ hcl) (hts _ hinst) (hts _ hini) hK hP hD hS hA hc hfs hcells hslots hd (fun q H1 hP1 hD1 hS1 => ?_)
  rw [hw q] at hP1 hD1
  exact kk q res h H1 locs ls hP1 hD1 hS1 hL
theorem gg_newI (C : Cx X D T cc own rm) (harr : Cond.arrayClass .int ∈ tb) {v : Int32} {N : Nat} (hv : ¬ v < 0) (hN : v.toNatClampNeg = N) (hby : N * componentBytes .int ≤ 536870912) (hcells : n.1 + 1 ≤ rm.cells) (hslots : n.2 + N ≤ rm.slots) (hn2 : (n.1 + 1, n.2 + N) = n2) (hd : decode cc pc = .ok (.newarray .int, 2)) {wq : Nat → va_W} (hw : ∀ q, ws ++ [(q, .inl (T 0, N, .inl (fun _ => 0)))] = wq q) (kk : ∀ q, GG X D Q n2 (wq q) lv (pc + 2) (.ref q :: st) o) : GG X D Q n ws lv pc (.int v :: st) o := by
  obtain ⟨p, l, e, R, s, m, args, below, meth, c, A, nL⟩ := X
  obtain ⟨hx, hb, hml, hown, hts, hK, hA, hlk, hR, hSE⟩ := C
  intro res h H locs ls hP hD hS hL
  subst hR; subst hn2
  refine va_newa (atype := .int) hx hb (hts _ harr) (ty := .int) rfl hK hP hD hS hA (a0 := (N, .inl (fun _ => 0))) (fun _ => rfl) hv hN hby hcells hslots hd (fun q cA H1 hK1 hP1 hD1 hS1 => ?_)
  have e1 : s.vm.findClass ("[" ++ FieldType.int.toString) = some (T 0) := (hK.2 0 (T 0, .int) rfl).2
  have e2 : s.vm.findClass ("[" ++ FieldType.int.toString) = some cA := (hK1.2 4 (cA, .int) rfl).2
  have e3 : cA = T 0 := Option.some.inj (e2.symm.trans e1)
  subst e3
  rw [hw q] at hP1 hD1
  exact kk q res h H1 locs ls hP1 hD1 hS1 hL
theorem gg_newZ (C : Cx X D T cc own rm) (harr : Cond.arrayClass .boolean ∈ tb) {v : Int32} {N : Nat} (hv : ¬ v < 0) (hN : v.toNatClampNeg = N) (hby : N * componentBytes .boolean ≤ 536870912) (hcells : n.1 + 1 ≤ rm.cells) (hslots : n.2 + N ≤ rm.slots) (hn2 : (n.1 + 1, n.2 + N) = n2) (hd : decode cc pc = .ok (.newarray .boolean, 2)) {wq : Nat → va_W} (hw : ∀ q, ws ++ [(q, .inl (T 1, N, .inl (fun _ => 0)))] = wq q) (kk : ∀ q, GG X D Q n2 (wq q) lv (pc + 2) (.ref q :: st) o) : GG X D Q n ws lv pc (.int v :: st) o := by
  obtain ⟨p, l, e, R, s, m, args, below, meth, c, A, nL⟩ := X
  obtain ⟨hx, hb, hml, hown, hts, hK, hA, hlk, hR, hSE⟩ := C
  intro res h H locs ls hP hD hS hL
  subst hR; subst hn2
  refine va_newa (atype := .boolean) hx hb (hts _ harr) (ty := .boolean) rfl hK hP hD hS hA (a0 := (N, .inl (fun _ => 0))) (fun _ => rfl) hv hN hby hcells hslots hd (fun q cA H1 hK1 hP1 hD1 hS1 => ?_)
  have e1 : s.vm.findClass ("[" ++ FieldType.boolean.toString) = some (T 1) := (hK.2 1 (T 1, .boolean) rfl).2
  have e2 : s.vm.findClass ("[" ++ FieldType.boolean.toString) = some cA := (hK1.2 4 (cA, .boolean) rfl).2
  have e3 : cA = T 1 := Option.some.inj (e2.symm.trans e1)
  subst e3
  rw [hw q] at hP1 hD1
  exact kk q res h H1 locs ls hP1 hD1 hS1 hL
theorem gg_newQ0 (C : Cx X D T cc own rm) {index : Nat} (hcl : Cond.classLink own index RX0 ∈ tb) {v : Int32} {N : Nat} (hv : ¬ v < 0) (hN : v.toNatClampNeg = N) (hby : N * 4 ≤ 536870912) (hcells : n.1 + 1 ≤ rm.cells) (hslots : n.2 + N ≤ rm.slots) (hn2 : (n.1 + 1, n.2 + N) = n2) (hd : decode cc pc = .ok (.anewarray index, 3)) {wq : Nat → va_W} (hw : ∀ q, ws ++ [(q, .inl (T 2, N, .inr (.inr (.inr (.inr (fun _ => none))))))] = wq q) (kk : ∀ q, GG X D Q n2 (wq q) lv (pc + 3) (.ref q :: st) o) : GG X D Q n ws lv pc (.int v :: st) o := by
  obtain ⟨p, l, e, R, s, m, args, below, meth, c, A, nL⟩ := X
  obtain ⟨hx, hb, hml, hown, hts, hK, hA, hlk, hR, hSE⟩ := C
  intro res h H locs ls hP hD hS hL
  subst hR; subst hn2
  refine va_newq hx hb hown (hts _ hcl) hSE.2.1 hK hP hD hS hA hv hN hby hcells hslots hd (fun q cA H1 hK1 hP1 hD1 hS1 => ?_)
  obtain ⟨k1, m1, -, -, -, e1⟩ := (hK.2 2 (T 2, .object RX0) rfl).2
  obtain ⟨k2, m2, -, -, -, e2⟩ := (hK1.2 4 (cA, .object RX0) rfl).2
  have e3 : cA = T 2 := Option.some.inj (e2.symm.trans e1)
  subst e3
  rw [hw q] at hP1 hD1
  exact kk q res h H1 locs ls hP1 hD1 hS1 hL
theorem gg_astQ0 (C : Cx X D T cc own rm) (q0 qk : Nat) {a N v i' : Nat} {f : Nat → Option Nat} {i : Int32} {vs : List Value} (he : ws[q0]? = some (a, .inl (T 2, N, .inr (.inr (.inr (.inr f)))))) (hv : ws[qk]? = some (v, .inr (0, vs))) (hi : vp_in i N) (hi' : i.toNatClampNeg = i') (hd : decode cc pc = .ok (.aastore, 1)) (hw : ws.set q0 (a, .inl (T 2, N, .inr (.inr (.inr (.inr (va_up f i' (some v))))))) = ws') (kk : GG X D Q n ws' lv (pc + 1) st o) : GG X D Q n ws lv pc (.ref v :: .int i :: .ref a :: st) o := by
  obtain ⟨p, l, e, R, s, m, args, below, meth, c, A, nL⟩ := X
  obtain ⟨hx, hb, hml, hown, hts, hK, hA, hlk, hR, hSE⟩ := C
  intro res h H locs ls hP hD hS hL
  subst hi'; subst hw
  exact va_astq hx hb hK hP hD hS q0 2 qk 0 he rfl hv rfl hi hd (fun H1 locs1 hP1 hD1 hS1 => kk res h H1 locs1 ls hP1 hD1 hS1 hL)
theorem gg_newQ1 (C : Cx X D T cc own rm) {index : Nat} (hcl : Cond.classLink own index RX6 ∈ tb) {v : Int32} {N : Nat} (hv : ¬ v < 0) (hN : v.toNatClampNeg = N) (hby : N * 4 ≤ 536870912) (hcells : n.1 + 1 ≤ rm.cells) (hslots : n.2 + N ≤ rm.slots) (hn2 : (n.1 + 1, n.2 + N) = n2) (hd : decode cc pc = .ok (.anewarray index, 3)) {wq : Nat → va_W} (hw : ∀ q, ws ++ [(q, .inl (T 3, N, .inr (.inr (.inr (.inr (fun _ => none))))))] = wq q) (kk : ∀ q, GG X D Q n2 (wq q) lv (pc + 3) (.ref q :: st) o) : GG X D Q n ws lv pc (.int v :: st) o := by
  obtain ⟨p, l, e, R, s, m, args, below, meth, c, A, nL⟩ := X
  obtain ⟨hx, hb, hml, hown, hts, hK, hA, hlk, hR, hSE⟩ := C
  intro res h H locs ls hP hD hS hL
  subst hR; subst hn2
  refine va_newq hx hb hown (hts _ hcl) hSE.2.2.1 hK hP hD hS hA hv hN hby hcells hslots hd (fun q cA H1 hK1 hP1 hD1 hS1 => ?_)
  obtain ⟨k1, m1, -, -, -, e1⟩ := (hK.2 3 (T 3, .object RX6) rfl).2
  obtain ⟨k2, m2, -, -, -, e2⟩ := (hK1.2 4 (cA, .object RX6) rfl).2
  have e3 : cA = T 3 := Option.some.inj (e2.symm.trans e1)
  subst e3
  rw [hw q] at hP1 hD1
  exact kk q res h H1 locs ls hP1 hD1 hS1 hL
theorem gg_astQ1 (C : Cx X D T cc own rm) (q0 qk : Nat) {a N v i' : Nat} {f : Nat → Option Nat} {i : Int32} {vs : List Value} (he : ws[q0]? = some (a, .inl (T 3, N, .inr (.inr (.inr (.inr f)))))) (hv : ws[qk]? = some (v, .inr (3, vs))) (hi : vp_in i N) (hi' : i.toNatClampNeg = i') (hd : decode cc pc = .ok (.aastore, 1)) (hw : ws.set q0 (a, .inl (T 3, N, .inr (.inr (.inr (.inr (va_up f i' (some v))))))) = ws') (kk : GG X D Q n ws' lv (pc + 1) st o) : GG X D Q n ws lv pc (.ref v :: .int i :: .ref a :: st) o := by
  obtain ⟨p, l, e, R, s, m, args, below, meth, c, A, nL⟩ := X
  obtain ⟨hx, hb, hml, hown, hts, hK, hA, hlk, hR, hSE⟩ := C
  intro res h H locs ls hP hD hS hL
  subst hi'; subst hw
  exact va_astq hx hb hK hP hD hS q0 3 qk 3 he rfl hv rfl hi hd (fun H1 locs1 hP1 hD1 hS1 => kk res h H1 locs1 ls hP1 hD1 hS1 hL)
theorem gg_callI {σ : Type} {fm : Option σ} {k : σ → Option ρ} {Fi : σ → Option Value → va_W → Prop} {y : MethodName} {b : ByteArray} {mL idx na fr mc ms lo a : Nat} {wr wc : va_W} {As rest : List Value} (C : Cx X D T cc own rm) (hM : ∀ (l : Launch) r, fm = some r → Kt l D T y b mL none (fr, mc, ms, lo) (.ref a :: As) wc (Fi r)) (L : LkI own idx y b mL na) (hrm : fr + 1 ≤ rm.frames ∧ 8 + (mL + 11) + lo ≤ rm.locals) (hnn : n.1 + mc ≤ rm.cells ∧ n.2 + ms ≤ rm.slots) (hn2 : (n.1 + mc, n.2 + ms) = n2) (hna : As.length = na) (hst : st = As.reverse ++ .ref a :: rest) (hcat : (rest.map fun v => v.category).sum ≤ 8) (hd : decode cc pc = .ok (.invokespecial idx, 3)) (hws : ws = wr ++ wc) (hvv : ∀ r v w', Fi r v w' → v = none) (kk : ∀ r w', Fi r none w' → GG X D Q n2 (wr ++ w') lv (pc + 3) rest (k r)) : GG X D Q n ws lv pc st (jn fm k) := by
  obtain ⟨p, l, e, R, s, m, args, below, meth, c, A, nL⟩ := X
  obtain ⟨hx, hb, hml, hown, hts, hK, hA, hlk, hR, hSE⟩ := C
  intro res h H locs ls hP hD hS hL
  cases hfm : fm with
  | none => rw [hfm] at h; cases h
  | some r =>
    rw [hfm] at h
    subst hst; subst hws; subst hR; subst hn2
    have inR : ∀ (k : Nat) (q : Nat × va_E), wc[k]? = some q → (wr ++ wc)[wr.length + k]? = some q := fun k q hq => by
      rw [List.getElem?_append_right (by omega)]
      simpa using hq
    have inL : ∀ (k : Nat) (q : Nat × va_E), wr[k]? = some q → (wr ++ wc)[k]? = some q := fun k q hq => by
      rw [List.getElem?_append_left (List.getElem?_eq_some_iff.mp hq).1]
      exact hq
    have hF2 : ∀ q, va_A wc H.size q → A q := by
      intro q hq
      rcases hq with ⟨k, e, hq⟩ | hq
      · exact hD.2 _ _ (inR k (q, e) hq)
      · exact hA q (Nat.le_trans hS.1 hq)
    have hPc : va_P D vwCl wc H := fun k q hq => hP _ q (inR k q hq)
    have hDc : va_D (fun _ => True) wc := ⟨fun i j x z hx hz hxz => by
      have := hD.1 _ _ x z (inR i x hx) (inR j z hz) hxz
      omega, fun _ _ _ => trivial⟩
    have apart : ∀ (k : Nat) (q : Nat × va_E), wr[k]? = some q → q.1 < H.size ∧ ¬ va_A wc H.size q.1 := by
      intro k q hq
      have hl := (hP k q (inL k q hq)).lt
      refine ⟨hl, fun z => ?_⟩
      rcases z with ⟨k2, e, z⟩ | z
      · have h1 := hD.1 _ _ q (q.1, e) (inL k q hq) (inR k2 (q.1, e) z) rfl
        have h2 := (List.getElem?_eq_some_iff.mp hq).1
        omega
      · omega
    have hSc : SE (va_A wc H.size) s H := (hSE.kept (fun q h1 h2 => hS.2.1 q h1 h2)).narrow hF2
    obtain ⟨⟨L1, L2, L3, L4⟩, L5, L6⟩ := L
    have hG : GoodIn tb (Cond.code y b mL none :: tb) := tb_in (tb_c L4)
    have hr := va_runI (As := As) (rest := rest) (b := a) (p := p) (l := l) (e := e) (R := R) (s := s) (m := m) (args := args) (below := below) (meth := meth) (c := c) (H := H) (locs := locs) (cells := n.1) (slots := n.2) (g := F0 m pc ls (As.reverse ++ .ref a :: rest)) ⟨hx, hb, hml, hown, hts⟩ (hM l r hfm H.size) (cwI na hts hG rfl rfl rfl (hts _ L3) (hts _ L1) (hts _ L2) L5 L6 hrm) ⟨Pk_blind, fun U hU hW => ⟨rfl, by rw [hU], by rw [hU]; exact hPc, va_K.moved hW.alike hK, hDc, by rw [hU]; exact hSc.warm hW⟩⟩ rfl hna hL.1 rfl (lv_room hcat) hd hnn
    intro T0 hT0 Y
    obtain ⟨v, st₀, t, T', L, h0, Y', hLL, e1, e2, ⟨⟨r', w', ho, hFi, hP1, hD1⟩, hF⟩, stp⟩ := hr T0 hT0 Y
    cases ho
    obtain rfl := hvv r _ w' hFi
    have hk : ∀ q : Nat, q < H.size → ¬ va_A wc H.size q → t.heap[q]? = H[q]? := fun q h1 h2 => by rw [← h0]; exact hF.2 q (by rw [h0]; exact h1) h2
    have hz : H.size ≤ t.heap.size := by rw [← h0]; exact hF.1
    have hP2 : va_P D vwCl (wr ++ w') t.heap := va_P.app (fun k q hq => (hP k q (inL k q hq)).kept (hk q.1 (apart k q hq).1 (apart k q hq).2)) hP1
    have hDr : va_D A wr := ⟨fun i j x z hx hz hxz => hD.1 i j x z (inL i x hx) (inL j z hz) hxz, fun k q hq => hD.2 k q (inL k q hq)⟩
    have hD2 : va_D A (wr ++ w') := va_D.app hDr (hD1.weaken (fun k q _ z => hF2 q.1 z)) (fun i j x z hx hz hxz => (apart i x hx).2 (by rw [hxz]; exact hD1.2 j z hz))
    obtain ⟨t2, a1, b1⟩ := kk r w' hFi res h t.heap (locs ++ L) ls hP2 hD2 ⟨Nat.le_trans hS.1 hz, fun q h1 h2 => (hk q (Nat.lt_of_lt_of_le h1 hS.1) (fun z => h2 (hF2 q z))).trans (hS.2.1 q h1 h2), fun z hz => (List.mem_append.mp hz).elim (hS.2.2 z) (fun q => hF2 _ (hLL z q))⟩ hL T' e1 Y'
    exact ⟨t2, stp t2 a1, b1⟩
end GGN
