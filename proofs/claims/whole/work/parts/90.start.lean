
/-! THE CLAIM OUT OF ONE WALK OF THE LAW'S BODY. Your part is whole_start (and what it stands on); all else here is the same for every law, but numbers. -/
def R_law : String := "CradleHourLaw"
def lw_P (b : Addr) (xs : List Int32) (args : Array Value) (s : State) : Prop := args = #[.ref b] ∧ s.IntsAt b xs ∧ xs.length ≤ 2560 ∧ (Jvm.Cond.and given_1 narrow_1).before args s = true
def lw_Q (_ : Array Value) (s : State) (o : Outcome) (t : State) : Prop := o = .returned (some (.int 1)) ∧ Framed s o t [] 600000 7302250
def lw_Z (below : List Frame) (a : Array Value) (s : State) : State → Prop := fun t => ∃ o, t.status = .running ∧ Ended t below o ∧ lw_Q a s o t
/-- the law's own end, with 1 on the stack, nothing written that was there before, its room as the claim has it -/
theorem lw_ret {p : Program} {l : Launch} {e : Env} {s : State} {m : MethodId} {below : List Frame} {meth : Method} {c : Code} {b : Nat} (hx : p.tables.exec = Jvm.exec) (hb : c.code = code) (hr : meth.sig.returnType = ret) (hlocks : meth.locks = false) {pc : Nat} {H : Heap} {ls : Array Slot} (hdg : decode code pc = .ok (.ireturn, 1)) : W p l e room_1 s m #[Value.ref b] below meth c H [] 600000 7302250 (lw_Z below #[Value.ref b] s) (F0 m pc ls [.int 1]) := by
  intro T hT X
  obtain ⟨fs, hret, hrun, hended, hW, hframe⟩ := X.leave (v := some (.int 1)) (hlocks := hlocks) (fun h => by rw [hr] at h; cases h)
  have hmeth' : T.vm.method? m = some meth := X.method'
  refine ⟨T.setFrames fs, ?_, .returned (some (.int 1)), hrun, hended, rfl, ⟨_, rfl⟩, hW, hframe⟩
  jvm_step X.here [X.here.top, hx, hb, hdg, hmeth', hr, ret, narrow_b1]
  (try refine ⟨rfl, ?_⟩); (try refine ⟨rfl, ?_⟩)
  first | (intro acts; rw [hret _ acts rfl rfl rfl]) | rw [hret _ _ rfl rfl rfl]
  exact Steps.refl _
/-- what holds at the law's entry: the machine, the code, the tables' words (any of lw_tbl by 'hts w (by decide +kernel)'), the script of L ints xs at the cell b, what the Statement gives of the start (any of its parts by flat_of_before) -/
def lw_At (p : Program) (s : State) (m : MethodId) (meth : Method) (c : Code) (b L : Nat) (xs : Nat → Int32) : Prop :=
  p.tables.exec = Jvm.exec ∧ c.code = code ∧ meth.sig.returnType = ret ∧ c.maxLocals = 4 ∧ s.vm.findClass R_law = some m.cls ∧ (∀ w ∈ lw_tbl, w.before #[Value.ref b] s = true) ∧ va_X b L xs s s.heap ∧ b < s.heap.size ∧ meth.locks = false ∧ (Jvm.Cond.and given_1 narrow_1).before #[Value.ref b] s = true

theorem W_mono {p : Program} {l : Launch} {e : Env} {R : Room} {s : State} {m : MethodId} {args : Array Value} {below : List Frame} {meth : Method} {c : Code} {H : Heap} {locs : List Loc} {k1 k2 : Nat} {Q Q' : State → Prop} {g : JFrame} (h : ∀ t, Q t → Q' t) (w : W p l e R s m args below meth c H locs k1 k2 Q g) : W p l e R s m args below meth c H locs k1 k2 Q' g := fun T0 hT0 Y => by
  obtain ⟨t, a, b⟩ := w T0 hT0 Y
  exact ⟨t, a, h t b⟩
theorem law_tys {args : Array Value} {s : State} (hts : ∀ w ∈ lw_tbl, w.before args s = true) : ∃ T : Nat → ClassId, ∀ (k : Nat) (q : ClassId × FieldType), (tyL T)[k]? = some q → ArrOfT s q.1 q.2 ∧ va_RA s q.1 q.2 := by
  obtain ⟨c0, k0, m0, a1, a2, a3⟩ := Cond.arrayClass_spec (hts (.arrayClass .int) (tb_lw tw_60))
  obtain ⟨c1, k1, m1, b1, b2, b3⟩ := Cond.arrayClass_spec (hts (.arrayClass .boolean) (tb_lw tw_92))
  obtain ⟨m2, c2, k2, d1, d2, d3, d4, d5⟩ := Cond.arrayOver_spec (hts (.arrayOver (.object RX0)) (List.mem_of_getElem? (i := 211) (by decide +kernel)))
  obtain ⟨m3, c3, k3, e1, e2, e3, e4, e5⟩ := Cond.arrayOver_spec (hts (.arrayOver (.object RX6)) (List.mem_of_getElem? (i := 212) (by decide +kernel)))
  refine ⟨fun k => if k = 0 then c0 else if k = 1 then c1 else if k = 2 then c2 else c3, ?_⟩
  intro k q hq
  match k, hq with
  | 0, hq => cases hq; exact ⟨fun n z => ⟨fun k h => (by cases h), k0, a2, m0, a3⟩, a1⟩
  | 1, hq => cases hq; exact ⟨fun n z => ⟨fun k h => (by cases h), k1, b2, m1, b3⟩, b1⟩
  | 2, hq => cases hq; exact ⟨fun n z => ⟨fun k h => (by cases h), k2, d3, m2, d4⟩, ⟨k2, m2, d3, d4, d1, d5⟩⟩
  | 3, hq => cases hq; exact ⟨fun n z => ⟨fun k h => (by cases h), k3, e3, m3, e4⟩, ⟨k3, m3, e3, e4, e1, e5⟩⟩
  | k + 4, hq => simp [tyL] at hq
theorem law_K {args : Array Value} {s : State} (hts : ∀ w ∈ lw_tbl, w.before args s = true) : ∃ (D : va_G) (T : Nat → ClassId), va_K D vwCl (tyL T) s := by
  obtain ⟨T, hT⟩ := law_tys hts
  have htb : ∀ w ∈ tb, w.before args s = true := fun w hw => hts w (tb_lw hw)
  obtain ⟨c0, i0, h0⟩ := u_known (C := RX0) (T := TX0) (N := 8) (n := 8) htb in_X0 (hts (.instantiable RX0 8) (tb_lw tw_22))
  obtain ⟨c1, i1, h1⟩ := u_known (C := RX2) (T := TX2) (N := 2) (n := 2) htb in_X2 (hts (.instantiable RX2 2) (tb_lw tw_94))
  obtain ⟨c2, i2, h2⟩ := u_known (C := RX4) (T := TX4) (N := 3) (n := 3) htb in_X4 (hts (.instantiable RX4 3) (tb_lw tw_147))
  obtain ⟨c3, i3, h3⟩ := u_known (C := RX6) (T := TX6) (N := 7) (n := 7) htb in_X6 (hts (.instantiable RX6 7) (tb_lw tw_62))
  obtain ⟨c4, i4, h4⟩ := u_known (C := RX7) (T := TX7) (N := 7) (n := 7) htb in_X7 (hts (.instantiable RX7 7) (tb_lw tw_110))
  obtain ⟨c5, i5, h5⟩ := u_known (C := RX8) (T := TX8) (N := 8) (n := 8) htb in_X8 (hts (.instantiable RX8 8) (tb_lw tw_14))
  obtain ⟨c6, i6, h6⟩ := u_known (C := RX9) (T := TX9) (N := 33) (n := 33) htb in_X9 (hts (.instantiable RX9 33) (tb_lw tw_534))
  refine ⟨(fun k => if k = 0 then c0 else if k = 1 then c1 else if k = 2 then c2 else if k = 3 then c3 else if k = 4 then c4 else if k = 5 then c5 else c6, fun k => if k = 0 then i0 else if k = 1 then i1 else if k = 2 then i2 else if k = 3 then i3 else if k = 4 then i4 else if k = 5 then i5 else i6), T, ?_, hT⟩
  intro k q hq
  match k, hq with
  | 0, hq => cases hq; exact h0
  | 1, hq => cases hq; exact h1
  | 2, hq => cases hq; exact h2
  | 3, hq => cases hq; exact h3
  | 4, hq => cases hq; exact h4
  | 5, hq => cases hq; exact h5
  | 6, hq => cases hq; exact h6
  | k + 7, hq => simp [vwCl] at hq
theorem law_SE {args : Array Value} {s : State} (hts : ∀ w ∈ lw_tbl, w.before args s = true) (hgv : (Jvm.Cond.and given_1 narrow_1).before args s = true) : SE (fun q => s.heap.size ≤ q) s s.heap := by
  have hs := flat_of_before _ hgv
  have hA : ∀ a : Nat, a < s.heap.size → ¬ (fun q => s.heap.size ≤ q) a := fun a h => Nat.not_le.mpr h
  have harr : (Cond.arrayOf (.static "CradleHour$Seeking" "TENS" "[I") .int).before args s = true := hs _ (by decide +kernel)
  have hle : (Cond.eq (.length (.static "CradleHour$Seeking" "TENS" "[I")) (.int 10)).before args s = true := hs _ (by decide +kernel)
  have hel : ∀ j : Nat, j < 10 → (Term.elem (.static "CradleHour$Seeking" "TENS" "[I") (.int (Int32.ofNat j))).eval args s none [] s = some (tensV j) := by
    intro j hj
    match j, hj with
    | 0, _ => exact va_eqt (hs (.eq (.elem (.static "CradleHour$Seeking" "TENS" "[I") (.int 0)) (.int 1)) (by decide +kernel))
    | 1, _ => exact va_eqt (hs (.eq (.elem (.static "CradleHour$Seeking" "TENS" "[I") (.int 1)) (.int 10)) (by decide +kernel))
    | 2, _ => exact va_eqt (hs (.eq (.elem (.static "CradleHour$Seeking" "TENS" "[I") (.int 2)) (.int 100)) (by decide +kernel))
    | 3, _ => exact va_eqt (hs (.eq (.elem (.static "CradleHour$Seeking" "TENS" "[I") (.int 3)) (.int 1000)) (by decide +kernel))
    | 4, _ => exact va_eqt (hs (.eq (.elem (.static "CradleHour$Seeking" "TENS" "[I") (.int 4)) (.int 10000)) (by decide +kernel))
    | 5, _ => exact va_eqt (hs (.eq (.elem (.static "CradleHour$Seeking" "TENS" "[I") (.int 5)) (.int 100000)) (by decide +kernel))
    | 6, _ => exact va_eqt (hs (.eq (.elem (.static "CradleHour$Seeking" "TENS" "[I") (.int 6)) (.int 1000000)) (by decide +kernel))
    | 7, _ => exact va_eqt (hs (.eq (.elem (.static "CradleHour$Seeking" "TENS" "[I") (.int 7)) (.int 10000000)) (by decide +kernel))
    | 8, _ => exact va_eqt (hs (.eq (.elem (.static "CradleHour$Seeking" "TENS" "[I") (.int 8)) (.int 100000000)) (by decide +kernel))
    | 9, _ => exact va_eqt (hs (.eq (.elem (.static "CradleHour$Seeking" "TENS" "[I") (.int 9)) (.int 1000000000)) (by decide +kernel))
    | j + 10, hj => omega
  obtain ⟨t, ht, hT⟩ := va_Tof (N := 10) (f := tensV) (A := fun q => s.heap.size ≤ q) (by decide) harr (va_eqt hle) hel hA
  refine ⟨⟨t, va_Zof (hts (.laysStatic RX5 "TENS" "[I") (List.mem_of_getElem? (i := 417) (by decide +kernel))) (hts (.initialized RX5) (tb_lw tw_10)) ht hA, hT⟩, va_AO.of (hts (.arrayOver (.object RX0)) (List.mem_of_getElem? (i := 211) (by decide +kernel))), va_AO.of (hts (.arrayOver (.object RX6)) (List.mem_of_getElem? (i := 212) (by decide +kernel))), ?_⟩
  intro q hq
  simp only [nestQ, List.mem_cons, List.not_mem_nil, or_false] at hq
  rcases hq with rfl | rfl | rfl | rfl | rfl | rfl
  · exact va_Nw.of rfl (hts _ (List.mem_of_getElem? (i := 288) (by decide +kernel)))
  · exact va_Nw.of rfl (hts _ (List.mem_of_getElem? (i := 333) (by decide +kernel)))
  · exact va_Nw.of rfl (hts _ (List.mem_of_getElem? (i := 334) (by decide +kernel)))
  · exact va_Nw.of rfl (hts _ (List.mem_of_getElem? (i := 415) (by decide +kernel)))
  · exact va_Nw.of rfl (hts _ (List.mem_of_getElem? (i := 461) (by decide +kernel)))
  · exact va_Nw.of rfl (hts _ (List.mem_of_getElem? (i := 511) (by decide +kernel)))
set_option maxHeartbeats 4000000 in
set_option maxRecDepth 100000 in
/-- THE LAW, from its entry -/
theorem whole_start {p : Program} {e : Env} {s : State} {m : MethodId} {below : List Frame} {meth : Method} {c : Code} (l : Launch) (hflags : l.flags = flags0) {b L : Nat} {xs : Nat → Int32} (hL : L ≤ 2560) (C0 : lw_At p s m meth c b L xs) : W p l e room_1 s m #[Value.ref b] below meth c s.heap [] 0 0 (lw_Z below #[Value.ref b] s) (entryFrame m ([Value.ref b] : List Value).toArray 4) := by
  obtain ⟨hx, hb, hr, hml, hown, hts, hX, hbl, hlocks, hgv⟩ := C0
  obtain ⟨D, T, hK⟩ := law_K hts
  have hSE := law_SE hts hgv
  have hbA : ¬ (fun q : Nat => s.heap.size ≤ q) b := Nat.not_le.mpr hbl
  have hl := lv_entry ([.ref b]) (n := 4) (Nat.le_of_ble_eq_true rfl)
  rw [lg_entry_eq]
  generalize (lg_sl ([.ref b]) ++ List.replicate (4 - (lg_sl ([.ref b])).length) Slot.unset).toArray = ls at hl ⊢
  have hl : lv_has ls 4 [(0, .ref b)] := hl
  have key : GG (p, l, e, room_1, s, m, #[Value.ref b], below, meth, c, (fun q : Nat => s.heap.size ≤ q), 4) D (fun (r : Int32) t => r = 1 → lw_Z below #[Value.ref b] s t) (0, 0) [] [(0, .ref b)] 0 [] (f_law xs L) := by
    have C : Cx (p, l, e, room_1, s, m, #[Value.ref b], below, meth, c, (fun q : Nat => s.heap.size ≤ q), 4) D T code RL room_1 := ⟨hx, hb, hml, hown, fun w hw => hts w (tb_lw hw), hK, fun _ h => h, hlocks, rfl, hSE⟩
    have hz : ∀ (n : Nat × Nat) ws lv pc st, GG (p, l, e, room_1, s, m, #[Value.ref b], below, meth, c, (fun q : Nat => s.heap.size ≤ q), 4) D (fun (r : Int32) t => r = 1 → lw_Z below #[Value.ref b] s t) n ws lv pc st (some 0) := by
      intro n ws lv pc st res h H locs ls hP hD hS hL T0 hT0 Y
      obtain rfl := Option.some.inj h
      exact ⟨_, Steps.refl _, fun q => absurd q (by decide)⟩
    have h1 : ∀ (n : Nat × Nat), n.1 ≤ 600000 ∧ n.2 ≤ 7302250 → ∀ ws lv, GG (p, l, e, room_1, s, m, #[Value.ref b], below, meth, c, (fun q : Nat => s.heap.size ≤ q), 4) D (fun (r : Int32) t => r = 1 → lw_Z below #[Value.ref b] s t) n ws lv 965 [.int 1] (some 1) := by
      intro n hn ws lv res h H locs ls hP hD hS hL
      obtain rfl := Option.some.inj h
      refine W_mono (Q := lw_Z below #[Value.ref b] s) (fun t ht _ => ht) ?_
      refine va_forget (fun q hq => hS.2.2 q hq) ?_
      refine W.widen hn.1 hn.2 ?_
      exact lw_ret hx hb hr hlocks dL_law_965
    have hsl : ∀ (n : Nat × Nat) {ws : va_W} {lv : List (Nat × Value)} {pc : Nat} {st : List Value} {o : Option (Int32)} {i : Int32}, decode code pc = .ok (.iaload, 1) → GG (p, l, e, room_1, s, m, #[Value.ref b], below, meth, c, (fun q : Nat => s.heap.size ≤ q), 4) D (fun (r : Int32) t => r = 1 → lw_Z below #[Value.ref b] s t) n ws lv (pc + 1) (.int (xs i.toNatClampNeg) :: st) o → GG (p, l, e, room_1, s, m, #[Value.ref b], below, meth, c, (fun q : Nat => s.heap.size ≤ q), 4) D (fun (r : Int32) t => r = 1 → lw_Z below #[Value.ref b] s t) n ws lv pc (.int i :: .ref b :: st) (gu i L o) := by
      intro n ws lv pc st o i hd kk res h H locs ls hP hD hS hL
      by_cases hi : i < 0 ∨ L ≤ i.toNatClampNeg
      · rw [gu, if_pos hi] at h; cases h
      rw [gu, if_neg hi] at h
      exact va_sld hx hb hX hbl hbA hS hi hd (kk res h H locs ls hP hD hS hL)
    have hln : ∀ (n : Nat × Nat) {ws : va_W} {lv : List (Nat × Value)} {pc : Nat} {st : List Value} {o : Option (Int32)}, decode code pc = .ok (.arraylength, 1) → GG (p, l, e, room_1, s, m, #[Value.ref b], below, meth, c, (fun q : Nat => s.heap.size ≤ q), 4) D (fun (r : Int32) t => r = 1 → lw_Z below #[Value.ref b] s t) n ws lv (pc + 1) (.int (Int32.ofNat L) :: st) o → GG (p, l, e, room_1, s, m, #[Value.ref b], below, meth, c, (fun q : Nat => s.heap.size ≤ q), 4) D (fun (r : Int32) t => r = 1 → lw_Z below #[Value.ref b] s t) n ws lv pc (.ref b :: st) o := by
      intro n ws lv pc st o hd kk res h H locs ls hP hD hS hL
      exact va_slen hx hb hX hbl hbA hS hd (kk res h H locs ls hP hD hS hL)
    exact law_walk C rfl hz h1 hsl hln
  refine W_mono (fun t ht => ht rfl) (key 1 (law_pure xs L hL) s.heap [] ls (fun k q h => by simp at h) ⟨fun i j p q h => by simp at h, fun k q h => by simp at h⟩ va_S.rf hl)
-- ===== YOUR PART ENDS =====
set_option maxHeartbeats 4000000 in
theorem lw_walk (l : Launch) (hflags : l.flags = flags0) (b : Addr) (xs : List Int32) : MetFree l x (headSpec (Jvm.Cond.code x code maxLocals ret :: tables_1) room_1) (lw_P b xs) (fun _ _ _ _ _ => True) lw_Q := by
  refine MetFree.of_bodyS (code := code) (maxLocals := maxLocals) (ret := ret) (by decide) ?_ ?_
  · intro args s m h hn
    obtain ⟨meth, c, h1, h2, h3, h4, h5, h6, -, -⟩ := Cond.code_spec hn (atoms_spec (ws := Jvm.Cond.code x code maxLocals ret :: tables_1) h _ List.mem_cons_self)
    exact ⟨meth, c, h1, h2, h3, h4, h5, h6⟩
  · intro p e s m args below meth c s₁ B hml0 hP _
    obtain ⟨rfl, hx, hbd, hgv⟩ := hP
    obtain ⟨scr, harrAt, hlist, hof, hsmall⟩ := hx
    obtain ⟨hcb, hkn, -, -⟩ := State.arrayAt?_spec harrAt
    have hown : s.vm.findClass R_law = some m.cls := findClass_of_methodNamed B.named
    have hts0 : ∀ c ∈ (Jvm.Cond.code x code maxLocals ret :: tables_1), c.before #[Value.ref b] s = true := atoms_spec (ws := Jvm.Cond.code x code maxLocals ret :: tables_1) B.pre
    have hts : ∀ w ∈ lw_tbl, w.before #[Value.ref b] s = true := k2_hts_sels lw_privs (fun w hw => hts0 w (List.mem_cons_of_mem _ hw)) lw_privs_ok
    have hml : c.maxLocals = 4 := B.maxLocals_eq (hts0 _ List.mem_cons_self)
    have X₀ : Stand p l e room_1 s m #[Value.ref b] below meth c s₁ [] 0 0 := Stand.of_body B
    have hh0 : s₁.heap = s.heap := by rw [B.state]; rfl
    have hsz : scr.slots.size = xs.length := by rw [← Array.length_toList, hlist, List.length_map]
    have hval : ∀ j : Nat, j < xs.length → scr.slots[j]? = some (.int (xs.getD j 0)) := fun j hj => by
      rw [← Array.getElem?_toList, hlist]
      simp [hj]
    have hbl : b < s.heap.size := (Array.getElem?_eq_some_iff.mp hcb).1
    have hX : va_X b xs.length (fun j => xs.getD j 0) s s.heap := ⟨scr, hcb, hof, hkn, hsz, hval⟩
    have K : W p l e room_1 s m #[Value.ref b] below meth c s₁.heap [] 0 0 (lw_Z below #[Value.ref b] s) (entryFrame m ([Value.ref b] : List Value).toArray 4) := by
      rw [hh0]
      exact whole_start l hflags hbd ⟨B.exec, B.bytes, B.returns, hml, hown, hts, hX, hbl, B.notSynchronized, hgv⟩
    obtain ⟨t, a1, o, b1, b2, b3⟩ := K s₁ rfl X₀
    exact ⟨t, o, a1, b1, b2, b3⟩
theorem lw_pre_spec {args : Array Value} {s : State} (h : (Jvm.Cond.and given_1 narrow_1).before args s = true) (hr : rest_1_c.before args s = true) : ∃ (b : Addr) (xs : List Int32), lw_P b xs args s := by
  have hs := flat_of_before _ h
  have hq := flat_of_before _ hr
  have hc : (Cond.count 1).before args s = true := hs _ (by decide +kernel)
  have harr : (Cond.arrayOf (.arg 0) .int).before args s = true := hs _ (by decide +kernel)
  have hle : (Cond.le (.length (.arg 0)) (.int 2560)).before args s = true := hs _ (by decide +kernel)
  have hlen : (Cond.isInt (.length (.arg 0))).before args s = true := hq _ (by decide +kernel)
  have hall : (Cond.all (.arg 0) (.isInt (.elem (.arg 0) (.index 0)))).before args s = true := hq _ (by decide +kernel)
  obtain ⟨b, xs, hb, hx⟩ := State.ints_of_pre rfl harr hlen hall
  have hsm : xs.length < 2 ^ 31 := hx.choose_spec.2.2.2
  have hev : (Term.length (.arg 0)).eval args s none [] s = some (.int xs.length.toInt32) := hx.length_eval hb
  have hv := Cond.le_ints hev (show (Term.int 2560).eval args s none [] s = some (.int 2560) from rfl)
  have hd : xs.length.toInt32 ≤ 2560 := by
    simpa [Cond.before, Cond.holds, hv] using hle
  have hN : xs.length ≤ 2560 := (Int32.ofNat_le_ofNat hsm (by decide)).mp (show Int32.ofNat xs.length ≤ Int32.ofNat 2560 from hd)
  exact ⟨b, xs, Cond.one_arg hc (show args[0]? = some (.ref b) from hb), hx, hN, h⟩
theorem lw_comes (l : Launch) (hflags : l.flags = flags0) : Comes l x (Jvm.Cond.code x code maxLocals ret :: tables_1) room_1 (fun tb e args s => Calls_1 tb e args s ∧ rest_1 tb e args s ∧ Pre_1 tb e args s)
    (fun _ _ args s o t => lw_Q args s o t) := by
  intro p e ha hc hk s m args below hf hfit hheap happ hpre
  obtain ⟨b, xs, hP⟩ := lw_pre_spec hpre.2.2 hpre.2.1
  obtain ⟨k, o, h1, h2, h3, hQ⟩ := lw_walk l hflags b xs p e ha hc hk s m args below hf ((Spec.applies_iff_loose hf).mp happ).1 hP trivial
  exact ⟨k, o, h1, h2, h3, hQ⟩
theorem lw_frame {s t : State} {o : Outcome} {args : Array Value} (h : Framed s o t [] 600000 7302250) :
    Framed s o t (fieldLocs frame_1_writes args s ++ arrayLocs frame_1_arrays args s ++ staticLocs frame_1_statics s) 600000 7302250 := h
theorem lw_limb (L : Cond) (hL : ∀ (args : Array Value) (s t : State), L.after args s (.returned (some (.int 1))) t = true) :
    ArmFor flags0 classFile x code maxLocals ret World_1 tables_1 room_1 Calls_1 rest_1 Pre_1
      (fun tb e a s o t => postC L tb e a s o t ∧ Framed s o t (fieldLocs frame_1_writes a s ++ arrayLocs frame_1_arrays a s ++ staticLocs frame_1_statics s) 600000 7302250) := by
  intro l hflags _ _ p e ha hc hk s m args below hf hfit hheap happ hpre
  obtain ⟨k, o, h1, h2, h3, rfl, hF⟩ := lw_comes l hflags p e ha hc hk s m args below hf hfit hheap happ hpre
  exact ⟨k, _, h1, h2, h3, hL args s _, lw_frame hF⟩
theorem i_vc : Claimed_1_1 ∧ Claimed_1_2 := ⟨lw_limb limb_1_1 (fun args s t => by simp [limb_1_1, Cond.after, Cond.holds, Cond.value]), lw_limb limb_1_2 (fun args s t => Cond.after_iff.mpr (by
  first | (rw [show limb_1_2 = Cond.eq .result (.int 1) from rfl, Cond.eq_ints (x := 1) (y := 1) rfl rfl]; simp; done) | (simp [limb_1_2, Cond.value, Term.eval]; done)))⟩

