/-! the law: what holds at its entry; drawn -/
theorem arr_start {args : Array Value} {s : State} {ty : FieldType} (h : (Cond.arrayClass ty).before args s = true) : ∃ c : ClassId, ArrOfT s c ty ∧ s.vm.findClass ("[" ++ ty.toString) = some c := by
  obtain ⟨c, k, comp, h1, h2, h3⟩ := Cond.arrayClass_spec h
  exact ⟨c, fun n z => ⟨fun k h => (by cases h), k, h2, comp, h3⟩, h1⟩
theorem arr_startO {args : Array Value} {s : State} {C : String} (h : (Cond.arrayOver (.object C)).before args s = true) : ∃ c : ClassId, ArrOfT s c (.object C) ∧ va_RA s c (.object C) := by
  obtain ⟨comp, c, k, h1, -, h2, h3, h4⟩ := Cond.arrayOver_spec h
  exact ⟨c, fun n z => ⟨fun k h => (by cases h), k, h2, comp, h3⟩, k, comp, h2, h3, h1, h4⟩
theorem K_start {args : Array Value} {s : State} (hts : ∀ w ∈ AG, w.before args s = true) (hao : (Cond.arrayOver (.object "Clockhouse$Server")).before args s = true) : ∃ (dC : Nat → ClassId) (dI : Nat → Nat → Nat) (cA : Nat → ClassId), va_K (dC, dI) vwCl (tys4 cA) s := by
  obtain ⟨c0, i0, k0⟩ := u_known (C := RX0) (T := TX0) (N := 2) (n := 2) hts in_X0 (hts _ q_67)
  obtain ⟨c1, i1, k1⟩ := u_known (C := RX1) (T := TX1) (N := 4) (n := 4) hts in_X1 (hts _ q_48)
  obtain ⟨c2, i2, k2⟩ := u_known (C := RX2) (T := TX2) (N := 1) (n := 1) hts in_X2 (hts _ q_88)
  obtain ⟨c3, i3, k3⟩ := u_known (C := RX3) (T := TX3) (N := 9) (n := 9) hts in_X3 (hts _ q_82)
  obtain ⟨c4, i4, k4⟩ := u_known (C := RX4) (T := TX4) (N := 9) (n := 9) hts in_X4 (hts _ q_126)
  obtain ⟨c5, i5, k5⟩ := u_known (C := RX5) (T := TX5) (N := 10) (n := 10) hts in_X5 (hts _ q_40)
  obtain ⟨a1, h1, g1⟩ := arr_start (hts _ q_97)
  obtain ⟨a3, h3, g3⟩ := arr_startO hao
  refine ⟨fun k => if k = 0 then c0 else if k = 1 then c1 else if k = 2 then c2 else if k = 3 then c3 else if k = 4 then c4 else c5, fun k => if k = 0 then i0 else if k = 1 then i1 else if k = 2 then i2 else if k = 3 then i3 else if k = 4 then i4 else i5, fun k => if k = 3 then a3 else a1, fun c q hq => ?_, fun k q hq => ?_⟩
  · match c, hq with
    | 0, hq => cases hq; exact k0
    | 1, hq => cases hq; exact k1
    | 2, hq => cases hq; exact k2
    | 3, hq => cases hq; exact k3
    | 4, hq => cases hq; exact k4
    | 5, hq => cases hq; exact k5
    | c + 6, hq => simp [vwCl] at hq
  · match k, hq with
    | 0, hq => cases hq; exact ⟨h1, g1⟩
    | 1, hq => cases hq; exact ⟨h1, g1⟩
    | 2, hq => cases hq; exact ⟨h1, g1⟩
    | 3, hq => cases hq; exact ⟨h3, g3⟩
    | k + 4, hq => simp [tys4] at hq
theorem NG_start {args : Array Value} {s : State} (hts : ∀ w ∈ lw_tbl, w.before args s = true) : NGp s :=
  ⟨fun w hw => va_Nw.of (List.mem_filter.mp hw).2 (hts w (NG_tbl w (List.mem_filter.mp hw).1)), va_AO.of (hts _ (NG_tbl (.arrayOver (.object "Clockhouse$Server")) (by decide +kernel)))⟩
/-! drawn: a number of the script, or one made of its place; never below 0 -/
theorem and_nn (x : Int32) : 0 ≤ (x &&& (2147483647 : Int32)).toInt := by
  have h : (x &&& (2147483647 : Int32)).toBitVec.toNat ≤ 2147483647 := by
    have e : (x &&& (2147483647 : Int32)).toBitVec = x.toBitVec &&& 2147483647#32 := rfl
    rw [e, BitVec.toNat_and]
    exact Nat.and_le_right
  show 0 ≤ (x &&& (2147483647 : Int32)).toBitVec.toInt
  rw [BitVec.toInt_eq_toNat_of_lt (by omega)]
  omega
def PD (b L : Nat) (xs : Nat → Int32) (U : State) : Prop := va_X b L xs U U.heap ∧ b < U.heap.size
theorem PD_blind {b L : Nat} {xs : Nat → Int32} {av : List Value} : FrameBlind (va_Pc av (PD b L xs)) :=
  fun a U g mk q => ⟨q.1, va_X.moved (u := U) (U := U.calling g mk a) (Vm.Alike.refl U.vm) q.2.1, q.2.2⟩
section DRAWN
variable {p : Program} {l : Launch} {e : Env} {R : Room} {s : State} {m : MethodId} {args : Array Value} {below : List Frame} {meth : Method} {c : Code} {H : Heap} {locs : List Loc} {cells slots : Nat} {Q : State → Prop} {A : Nat → Prop}
variable {cc bytes : ByteArray} {pc nL maxL nn index : Nat} {ls : Array Slot} {rest As st0 : List Value} {own : String} {y : MethodName} {ret : Option FieldType} {rm : Room}
theorem kD (hx : p.tables.exec = Jvm.exec) (hb : c.code = cc) (hml : c.maxLocals = nL) (hown : s.vm.findClass own = some m.cls) (hts : ∀ w ∈ AG, w.before args s = true) {b L : Nat} {xs : Nat → Int32} (hS : va_S A s.heap H locs) (hX : va_X b L xs s s.heap) (hbl : b < s.heap.size) (hbA : ¬ A b)
    (hM : Met l y (Cond.code y bytes maxL ret :: AG) rm (va_Pc As (PD b L xs)) (va_Qi (fun r (_ : Unit) => 0 ≤ r.toInt) (fun _ _ => True) (fun _ => False)) 0 0 (fun _ => False))
    (cw : CallB R s args own index y bytes maxL ret (Cond.code y bytes maxL ret :: AG) rm 0 0 nn ∧ (Cond.static y).before args s = true)
    (hn : As.length = nn) (hsz : ls.size = nL) (hst : st0 = As.reverse ++ rest) (hrm : (rest.map fun v => v.category).sum ≤ 8) (hdg : decode cc pc = .ok (.invokestatic index, 3)) (hf : cells ≤ R.cells ∧ slots ≤ R.slots)
    (kk : ∀ (r : Int32) (H1 : Heap) (locs1 : List Loc), 0 ≤ r.toInt → va_S A s.heap H1 locs1 → (∀ q : Nat, q < H.size → H1[q]? = H[q]?) → W p l e R s m args below meth c H1 locs1 cells slots Q (F0 m (pc + 3) ls (.int r :: rest))) : W p l e R s m args below meth c H locs cells slots Q (F0 m pc ls st0) := by
  refine va_calli (va_runS (As := As) (rest := rest) ⟨hx, hb, hml, hown, hts⟩ hM cw ⟨PD_blind, fun U hU hW => ⟨rfl, by rw [hU]; exact va_X.moved hW.alike (hX.kept (hS.2.1 b hbl hbA)), by rw [hU]; exact Nat.lt_of_lt_of_le hbl hS.1⟩⟩ rfl hn hsz hst (lv_room hrm) hdg hf) hS (fun q _ h => h.elim) (fun q h => h.elim) (fun r u t H1 locs1 ht hvm hw hB hz hk hS1 => ?_)
  exact kk r H1 locs1 hw hS1 (fun q h => hk q h (fun z => z))
end DRAWN

theorem hyL_drawn : yL_drawn.cls ≠ "java/lang/invoke/MethodHandle" ∧ yL_drawn.cls ≠ "java/lang/invoke/VarHandle" ∧ (parseMethodDescriptor yL_drawn.desc).map (fun d => d.parameters.length) = some 2 := by decide +kernel
set_option maxHeartbeats 4000000 in
set_option maxRecDepth 100000 in
theorem c_L_drawn (l : Launch) {b L : Nat} {xs : Nat → Int32} (hL : L < 2147483648) {k : Int32} (hk : 0 ≤ k.toInt) : Met l yL_drawn (.code yL_drawn cL_drawn 2 (some .int) :: AG) ({ frames := 0, cells := 0, slots := 0, locals := 0 } : Room) (va_Pc [.ref b, .int k] (PD b L xs)) (va_Qi (fun r (_ : Unit) => 0 ≤ r.toInt) (fun _ _ => True) (fun _ => False)) 0 0 (fun _ => False) := by
  refine Met.ofW (cc := cL_drawn) (maxL := 2) (ret := some .int) (by decide) rfl ?_
  intro p e s m args below meth c s₁ B hml hv
  obtain ⟨rfl, hX, hbl⟩ := hv
  have hts9 := atoms_spec (ws := Cond.code yL_drawn cL_drawn 2 (some .int) :: AG) B.pre
  have hts : ∀ w ∈ AG, w.before ([.ref b, .int k] : List Value).toArray s = true := fun w h => hts9 w (List.mem_cons_of_mem _ h)
  have hx := B.exec
  have hb := B.bytes
  have hr := B.returns
  have hlocks := B.notSynchronized
  have hown : s.vm.findClass RL = some m.cls := findClass_of_methodNamed B.named
  rw [lg_entry_eq]
  have hl := lv_entry ([.ref b, .int k]) (n := 2) (Nat.le_of_ble_eq_true rfl)
  generalize (lg_sl ([.ref b, .int k]) ++ List.replicate (2 - (lg_sl ([.ref b, .int k])).length) Slot.unset).toArray = ls at hl ⊢
  have hl : lv_has ls 2 [(0, .ref b), (1, .int k)] := hl
  have hS : va_S (fun _ : Nat => False) s.heap s.heap [] := va_S.rf
  have fin : ∀ (ls : Array Slot) (x : Int32), W p l e ({ frames := 0, cells := 0, slots := 0, locals := 0 } : Room) s m ([.ref b, .int k] : List Value).toArray below meth c s.heap [] 0 0 (MQ below (va_Qi (fun r (_ : Unit) => 0 ≤ r.toInt) (fun _ _ => True) (fun _ => False)) ([.ref b, .int k] : List Value).toArray s 0 0 (fun _ => False)) (F0 m 22 ls [.int x]) := by
    intro ls x
    refine lv_ldc (v := 2147483647) hx hb hown (hts _ q_318) dL_drawn_22 ?_
    refine lv_iand hx hb dL_drawn_24 ?_
    exact W.iret (v := x &&& 2147483647) hx hb hr (fun t ht hW => ⟨⟨_, (), rfl, and_nn x, trivial⟩, hS.F ht⟩) hS.2.2 dL_drawn_25
  refine lv_iload_n hx hb dL_drawn_0 rfl (lv_at hl 1 rfl) ?_
  refine lv_aload_n hx hb dL_drawn_1 rfl (lv_at hl 0 rfl) ?_
  refine va_slen hx hb hX hbl (fun z => z) hS dL_drawn_2 ?_
  refine jI_ge (tgt := 12) hx hb dL_drawn_3 (by decide) (fun c1 => ?_) (fun c1 => ?_)
  · refine lv_aload_n hx hb dL_drawn_6 rfl (lv_at hl 0 rfl) ?_
    refine lv_iload_n hx hb dL_drawn_7 rfl (lv_at hl 1 rfl) ?_
    have c1 := i_lt.mp c1
    have eL : (Int32.ofNat L).toInt = (L : Int) := nI_toInt (n := L) (by omega)
    rw [eL] at c1
    refine va_sld hx hb hX hbl (fun z => z) hS (by rw [vp_in_iff]; omega) dL_drawn_8 ?_
    exact lv_goto (tgt := 22) hx hb dL_drawn_9 (by decide) (fin ls _)
  · refine lv_ldc (v := 15522001) hx hb hown (hts _ q_317) dL_drawn_12 ?_
    refine lv_iload_n hx hb dL_drawn_14 rfl (lv_at hl 1 rfl) ?_
    refine lv_iconst (v := 3) hx hb dL_drawn_15 (by decide) ?_
    refine lv_iadd hx hb dL_drawn_16 ?_
    refine lv_imul hx hb dL_drawn_17 ?_
    refine lv_sipush (v := 13411) hx hb dL_drawn_18 (by decide) ?_
    refine lv_iadd hx hb dL_drawn_21 ?_
    exact fin ls _
/-! numbers of the law */ -/
theorem rf_1 {x : Int32} (h : 0 ≤ x.toInt) : 0 ≤ (rem x 9973).toInt ∧ (rem x 9973).toInt ≤ 9972 := by
  have := rem_rng (x := x) (y := 9973) h (by decide)
  rw [show (9973 : Int32).toInt = 9973 by decide] at this
  omega
theorem rf_2 {x : Int32} (h : 0 ≤ x.toInt) : 0 ≤ (rem x 499).toInt ∧ (rem x 499).toInt ≤ 9972 := by
  have := rem_rng (x := x) (y := 499) h (by decide)
  rw [show (499 : Int32).toInt = 499 by decide] at this
  omega
theorem th_r {x : Int32} (h : 0 ≤ x.toInt) : 8 ≤ ((8 : Int32) + rem x 33).toInt ∧ ((8 : Int32) + rem x 33).toInt ≤ 40 := by
  have := rem_rng (x := x) (y := 33) h (by decide)
  rw [show (33 : Int32).toInt = 33 by decide] at this
  have e : (8 : Int32).toInt = 8 := by decide
  rw [i_add (by rw [e]; omega), e]; omega
theorem sub_r {x m k : Int32} {n q : Int} (hx : 0 ≤ x.toInt) (hm : m.toInt = n) (hn : 0 < n) (hk : k.toInt = q) (h0 : 0 ≤ q ∧ q ≤ 1000000) (h1 : n ≤ 2000001) : -q ≤ (rem x m - k).toInt ∧ (rem x m - k).toInt ≤ n - 1 - q := by
  have := rem_rng (x := x) (y := m) hx (by omega)
  rw [hm] at this
  rw [i_sub (by rw [hk]; omega), hk]; omega
theorem rd_r {x : Int32} (h : 0 ≤ x.toInt) : -1000000 ≤ (rem (x / 33) 2000001 - (1000000 : Int32)).toInt ∧ (rem (x / 33) 2000001 - (1000000 : Int32)).toInt ≤ 1000000 := by
  have := sub_r (x := x / 33) (m := 2000001) (k := 1000000) (n := 2000001) (q := 1000000) (div_nn h (by decide)) (by decide) (by omega) (by decide) (by omega) (by omega)
  omega
theorem sl_1 {x : Int32} (h : 0 ≤ x.toInt) : -200000 ≤ (rem x 400001 - (200000 : Int32)).toInt ∧ (rem x 400001 - (200000 : Int32)).toInt ≤ 200000 := by
  have := sub_r (x := x) (m := 400001) (k := 200000) (n := 400001) (q := 200000) h (by decide) (by omega) (by decide) (by omega) (by omega)
  omega
theorem sl_2 {x : Int32} (h : 0 ≤ x.toInt) : -300 ≤ (rem (x / 7) 601 - (300 : Int32)).toInt ∧ (rem (x / 7) 601 - (300 : Int32)).toInt ≤ 300 := by
  have := sub_r (x := x / 7) (m := 601) (k := 300) (n := 601) (q := 300) (div_nn h (by decide)) (by decide) (by omega) (by decide) (by omega) (by omega)
  omega
theorem sl_3 {x : Int32} (h : 0 ≤ x.toInt) : -200000 ≤ (rem (x / 11) 400001 - (200000 : Int32)).toInt ∧ (rem (x / 11) 400001 - (200000 : Int32)).toInt ≤ 200000 := sl_1 (div_nn h (by decide))
theorem sl_4 {x : Int32} (h : 0 ≤ x.toInt) : 0 ≤ (rem (x / 13) 100000).toInt ∧ (rem (x / 13) 100000).toInt ≤ 99999 := by
  have := rem_rng (x := x / 13) (y := 100000) (div_nn h (by decide)) (by decide)
  rw [show (100000 : Int32).toInt = 100000 by decide] at this
  omega
theorem sl_5 {x : Int32} (h : 0 ≤ x.toInt) : 0 ≤ (rem (x / 17) 100000).toInt ∧ (rem (x / 17) 100000).toInt ≤ 99999 := by
  have := rem_rng (x := x / 17) (y := 100000) (div_nn h (by decide)) (by decide)
  rw [show (100000 : Int32).toInt = 100000 by decide] at this
  omega
theorem gd_1 {A B : Mem} (h : GOOD A B) : ¬ f_X6_reading B < f_X6_reading A := fun q => Int.not_lt.mpr h.1 (l_lt.mp q)
theorem gd_2 {A B : Mem} (h : GOOD A B) : ¬ civ B < civ A := fun q => Int.not_lt.mpr h.2.1 (l_lt.mp q)
theorem gd_3 {A B : Mem} {i : Nat} (h : GOOD A B) (hn : nowI A ≤ 1000000000 * (i : Int)) : nowI B ≤ 1000000000 * ((i + 1 : Nat) : Int) := by
  have := h.2.2
  push_cast
  omega
theorem th_lt {i : Nat} {th : Int32} (h : 8 ≤ th.toInt ∧ th.toInt ≤ 40) (c : nI i < th) (hi : i < 100) : i < 40 := by
  have := i_lt.mp c
  rw [nI_toInt (by omega)] at this
  omega
theorem dk_1 {i : Nat} (hi : i < 100) : 0 ≤ ((1 : Int32) + nI i).toInt := by
  have e : (1 : Int32).toInt = 1 := by decide
  have e2 : (nI i).toInt = (i : Int) := nI_toInt (by omega)
  rw [i_add (by rw [e, e2]; omega), e, e2]; omega

