/-! the law: what holds at its entry, and its calls over three worlds (class, model, out array) -/
theorem arr_start {args : Array Value} {s : State} {ty : FieldType} (h : (Cond.arrayClass ty).before args s = true) : ∃ c : ClassId, ArrOfT s c ty ∧ s.vm.findClass ("[" ++ ty.toString) = some c := by
  obtain ⟨c, k, comp, h1, h2, h3⟩ := Cond.arrayClass_spec h
  exact ⟨c, fun n z => ⟨fun k h => (by cases h), k, h2, comp, h3⟩, h1⟩
theorem arr_startO {args : Array Value} {s : State} {C : String} (h : (Cond.arrayOver (.object C)).before args s = true) : ∃ c : ClassId, ArrOfT s c (.object C) ∧ va_RA s c (.object C) := by
  obtain ⟨comp, c, k, h1, -, h2, h3, h4⟩ := Cond.arrayOver_spec h
  exact ⟨c, fun n z => ⟨fun k h => (by cases h), k, h2, comp, h3⟩, k, comp, h2, h3, h1, h4⟩
theorem K_start {args : Array Value} {s : State} (hts : ∀ w ∈ AG, w.before args s = true) (hao : (Cond.arrayOver (.object "Clockhouse$Server")).before args s = true) : ∃ (dC : Nat → ClassId) (dI : Nat → Nat → Nat) (cA : Nat → ClassId), va_K (dC, dI) vwCl (tys4 cA) s := by
  obtain ⟨c0, i0, k0⟩ := u_known (C := RX0) (T := TX0) (N := 2) (n := 2) hts in_X0 (hts _ q_90)
  obtain ⟨c1, i1, k1⟩ := u_known (C := RX1) (T := TX1) (N := 4) (n := 4) hts in_X1 (hts _ q_71)
  obtain ⟨c2, i2, k2⟩ := u_known (C := RX2) (T := TX2) (N := 1) (n := 1) hts in_X2 (hts _ q_111)
  obtain ⟨c3, i3, k3⟩ := u_known (C := RX3) (T := TX3) (N := 9) (n := 9) hts in_X3 (hts _ q_105)
  obtain ⟨c4, i4, k4⟩ := u_known (C := RX4) (T := TX4) (N := 9) (n := 9) hts in_X4 (hts _ q_149)
  obtain ⟨c5, i5, k5⟩ := u_known (C := RX5) (T := TX5) (N := 10) (n := 10) hts in_X5 (hts _ q_63)
  obtain ⟨c6, i6, k6⟩ := u_known (C := RX6) (T := TX6) (N := 26) (n := 26) hts in_X6 (hts _ q_815)
  obtain ⟨a0, h0, g0⟩ := arr_start (hts _ q_899)
  obtain ⟨a1, h1, g1⟩ := arr_start (hts _ q_120)
  obtain ⟨a2, h2, g2⟩ := arr_start (hts _ q_900)
  obtain ⟨a3, h3, g3⟩ := arr_startO hao
  refine ⟨fun k => if k = 0 then c0 else if k = 1 then c1 else if k = 2 then c2 else if k = 3 then c3 else if k = 4 then c4 else if k = 5 then c5 else c6, fun k => if k = 0 then i0 else if k = 1 then i1 else if k = 2 then i2 else if k = 3 then i3 else if k = 4 then i4 else if k = 5 then i5 else i6, fun k => if k = 0 then a0 else if k = 1 then a1 else if k = 2 then a2 else a3, fun c q hq => ?_, fun k q hq => ?_⟩
  · match c, hq with
    | 0, hq => cases hq; exact k0
    | 1, hq => cases hq; exact k1
    | 2, hq => cases hq; exact k2
    | 3, hq => cases hq; exact k3
    | 4, hq => cases hq; exact k4
    | 5, hq => cases hq; exact k5
    | 6, hq => cases hq; exact k6
    | c + 7, hq => simp [vwCl] at hq
  · match k, hq with
    | 0, hq => cases hq; exact ⟨h0, g0⟩
    | 1, hq => cases hq; exact ⟨h1, g1⟩
    | 2, hq => cases hq; exact ⟨h2, g2⟩
    | 3, hq => cases hq; exact ⟨h3, g3⟩
    | k + 4, hq => simp [tys4] at hq
theorem NG_start {args : Array Value} {s : State} (hts : ∀ w ∈ lw_tbl, w.before args s = true) : NGp s :=
  ⟨fun w hw => va_Nw.of (List.mem_filter.mp hw).2 (hts w (NG_tbl w (List.mem_filter.mp hw).1)), va_AO.of (hts _ (NG_tbl (.arrayOver (.object "Clockhouse$Server")) (by decide +kernel)))⟩
theorem wld_kept {N : Nat} {lay : Nat → Dsc} {dC : Nat → ClassId} {dI : Nat → Nat → Nat} {cA : Nat → ClassId} {ad : Nat → Nat} {M : Mem} {H H1 : Heap} {B : Nat → Prop} (hP : va_P (dC, dI) vwCl (wld N lay cA ad M) H) (hB : ∀ k, k < N → ¬ B (ad k)) (hk : ∀ q : Nat, q < H.size → ¬ B q → H1[q]? = H[q]?) : va_P (dC, dI) vwCl (wld N lay cA ad M) H1 :=
  hP.kept (fun k q h => by
    have hl := (hP k q h).lt
    obtain ⟨h1, rfl⟩ := wld_inv h
    exact hk _ hl (hB k h1))
theorem outB_kept {dC : Nat → ClassId} {dI : Nat → Nat → Nat} {cA : Nat → ClassId} {qo : Nat} {fo : Nat → Int64} {H H1 : Heap} {B : Nat → Prop} (hPo : va_P (dC, dI) vwCl (outC cA qo fo) H) (hq : ¬ B qo) (hk : ∀ q : Nat, q < H.size → ¬ B q → H1[q]? = H[q]?) : va_P (dC, dI) vwCl (outC cA qo fo) H1 :=
  hPo.kept (fun k q h => by
    have hl := (hPo k q h).lt
    have e : q.1 = qo := by
      match k, h with
      | 0, h => cases h; rfl
      | k + 1, h => simp [outC] at h
    exact hk q.1 hl (e ▸ hq))
/-- the statics of Throwable, from the law's start to a later heap -/
theorem KX_law {s U : State} {H : Heap} {locs : List Loc} {ad : Nat → Nat} (h : KX (fun q => s.heap.size ≤ q) s) (hS : va_S (fun q => s.heap.size ≤ q) s.heap H locs) (hge : ∀ k, k < 69 → s.heap.size ≤ ad k) (hU : U.heap = H) (hW : s.WarmedH U.vm) : KX (adS 69 ad) U := by
  subst hU
  have hn : ∀ q, adS 69 ad q → s.heap.size ≤ q := fun q ⟨k, hk, e⟩ => e ▸ hge k hk
  exact ⟨(vx_Zq.moved hW.alike (h.1.kept hS.2.1)).narrow hn, (vx_Zq.moved hW.alike (h.2.1.kept hS.2.1)).narrow hn, NGx_warm hW h.2.2⟩
section LAWC
variable {p : Program} {l : Launch} {e : Env} {R : Room} {s : State} {m : MethodId} {args : Array Value} {below : List Frame} {meth : Method} {c : Code} {H : Heap} {locs : List Loc} {cells slots : Nat} {Q : State → Prop}
variable {cc bytes : ByteArray} {pc nL maxL nn index mc ms : Nat} {ls : Array Slot} {rest As st0 : List Value} {dC : Nat → ClassId} {dI : Nat → Nat → Nat} {cA : Nat → ClassId} {ad : Nat → Nat} {M : Mem} {own : String} {y : MethodName} {ret : Option FieldType} {rm : Room} {qo : Nat} {fo : Nat → Int64} {hh : List (Nat × Nat × Nat × Nat)}
theorem good_cW (hcode : Cond.codeWith y bytes maxL ret hh ∈ AG) : GoodIn AG (Cond.codeWith y bytes maxL ret hh :: AG) := fun w h => (List.mem_cons.mp h).elim (fun e => by rw [e]; exact AG_good _ hcode) (fun h => AG_good w h)
theorem mkSW (hts : ∀ w ∈ AG, w.before args s = true) (hcode : Cond.codeWith y bytes maxL ret hh ∈ AG) (hini : Cond.initialized y.cls ∈ AG) (hl : Cond.methodLink own index y ∈ AG) (hst : Cond.static y ∈ AG)
    (hd : y.cls ≠ "java/lang/invoke/MethodHandle" ∧ y.cls ≠ "java/lang/invoke/VarHandle" ∧ (parseMethodDescriptor y.desc).map (fun d => d.parameters.length) = some nn) (hrc : rm.cells = mc) (hrs : rm.slots = ms) (hR : rm.frames + 1 ≤ R.frames ∧ 8 + (maxL + 11) + rm.locals ≤ R.locals) :
    vx_CSW R s args own index y bytes maxL ret hh (Cond.codeWith y bytes maxL ret hh :: AG) rm mc ms nn :=
  vx_cwSW nn hts (fun w h => (List.mem_append.mp h).elim (fun h => by
    rcases List.mem_cons.mp h with rfl | h
    · exact AG_good _ hl
    · rcases List.mem_cons.mp h with rfl | h
      · exact AG_good _ hst
      · rw [List.mem_singleton.mp h]; exact AG_good _ hini) (fun h => good_cW hcode w h)) rfl hrc hrs hd hR
/-- a wrapper's call -/
theorem kW (hx : p.tables.exec = Jvm.exec) (hb : c.code = cc) (hml : c.maxLocals = nL) (hown : s.vm.findClass own = some m.cls) (hts : ∀ w ∈ AG, w.before args s = true) (hK : va_K (dC, dI) vwCl (tys4 cA) s) (hP : va_P (dC, dI) vwCl (wld 69 layC cA ad M) H) (hPo : va_P (dC, dI) vwCl (outC cA qo fo) H) (hS : va_S (fun q => s.heap.size ≤ q) s.heap H locs) (hKX : KX (fun q => s.heap.size ≤ q) s) (hNC : NCp s) (hge : ∀ k, k < 69 → s.heap.size ≤ ad k) (hgo : s.heap.size ≤ qo) {post : Int32 → Mem × (Nat → Int64) → Prop}
    (hM : Met l y (Cond.codeWith y bytes maxL ret hh :: AG) rm (va_Pc As (PW dC dI cA ad qo M fo)) (va_Qi post (PWq dC dI cA ad qo) (adW ad qo)) mc ms (adW ad qo))
    (cw : vx_CSW R s args own index y bytes maxL ret hh (Cond.codeWith y bytes maxL ret hh :: AG) rm mc ms nn)
    (hn : As.length = nn) (hsz : ls.size = nL) (hst : st0 = As.reverse ++ rest) (hrm : (rest.map fun v => v.category).sum ≤ 8) (hdg : decode cc pc = .ok (.invokestatic index, 3)) (hf : cells + mc ≤ R.cells ∧ slots + ms ≤ R.slots)
    (kk : ∀ (r : Int32) (z : Mem × (Nat → Int64)) (H1 : Heap) (locs1 : List Loc), post r z → va_P (dC, dI) vwCl (wld 69 layC cA ad z.1) H1 → va_P (dC, dI) vwCl (outC cA qo z.2) H1 → va_S (fun q => s.heap.size ≤ q) s.heap H1 locs1 → H.size ≤ H1.size → (∀ q : Nat, q < H.size → ¬ adW ad qo q → H1[q]? = H[q]?) → W p l e R s m args below meth c H1 locs1 (cells + mc) (slots + ms) Q (F0 m (pc + 3) ls (.int r :: rest))) : W p l e R s m args below meth c H locs cells slots Q (F0 m pc ls st0) := by
  have hA : ∀ q, adW ad qo q → s.heap.size ≤ q := fun q h => h.elim (fun ⟨k, hk, e⟩ => e ▸ hge k hk) (fun e => e ▸ hgo)
  refine va_calli (vx_runSW (As := As) (rest := rest) (Ts := AG) ⟨hx, hb, hml, hown, hts⟩ hM cw ⟨PW_blind, fun U hU hW => ⟨rfl, ⟨⟨by rw [hU]; exact hP, va_K.moved hW.alike hK⟩, KX_law hKX hS hge hU hW⟩, by rw [hU]; exact hPo, NCp.moved hW.alike hNC⟩⟩ rfl hn hsz hst (lv_room hrm) hdg hf) hS (fun q _ h => hA q h) hA (fun r z t H1 locs1 ht hvm hw hB hz hk hS1 => ?_)
  subst ht
  exact kk r z t.heap locs1 hw hB.1.1 hB.2 hS1 hz hk
end LAWC
