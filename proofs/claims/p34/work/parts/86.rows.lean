/-! the law's longer methods: what their walks share -/
def LK (p : Program) (l : Launch) (s : State) (m : MethodId) (c : Code) (args : Array Value) (cc : ByteArray) (nL : Nat) (dC : Nat → ClassId) (dI : Nat → Nat → Nat) (cA : Nat → ClassId) (A : Nat → Prop) : Prop :=
  p.tables.exec = Jvm.exec ∧ c.code = cc ∧ c.maxLocals = nL ∧ s.vm.findClass RL = some m.cls ∧ (∀ w ∈ AG, w.before args s = true) ∧ va_K (dC, dI) vwCl (tys4 cA) s ∧ KX A s ∧ NCp s ∧ l.stackTraces = false
def CA (A : Nat → Prop) (ad : Nat → Nat) : Prop := Inj 69 ad ∧ ∀ q, adS 69 ad q → A q
def AP (ad bd : Nat → Nat) : Prop := ∀ i j, i < 69 → j < 69 → ad i ≠ bd j
def rem (x y : Int32) : Int32 := x - x / y * y
theorem wld_kept {N : Nat} {lay : Nat → Dsc} {dC : Nat → ClassId} {dI : Nat → Nat → Nat} {cA : Nat → ClassId} {ad : Nat → Nat} {M : Mem} {H H1 : Heap} {B : Nat → Prop} (hP : va_P (dC, dI) vwCl (wld N lay cA ad M) H) (hB : ∀ k, k < N → ¬ B (ad k)) (hk : ∀ q : Nat, q < H.size → ¬ B q → H1[q]? = H[q]?) : va_P (dC, dI) vwCl (wld N lay cA ad M) H1 :=
  hP.kept (fun k q h => by
    have hl := (hP k q h).lt
    obtain ⟨h1, rfl⟩ := wld_inv h
    exact hk _ hl (hB k h1))
theorem KX.nar {A B : Nat → Prop} {s U : State} {H : Heap} {locs : List Loc} (h : KX A s) (hS : va_S A s.heap H locs) (hU : U.heap = H) (hW : s.WarmedH U.vm) (hn : ∀ q, B q → A q) : KX B U :=
  ⟨(h.at hS hU hW).1.narrow hn, (h.at hS hU hW).2.1.narrow hn, (h.at hS hU hW).2.2⟩
theorem good_cW {y : MethodName} {bytes : ByteArray} {maxL : Nat} {ret : Option FieldType} {hh : List (Nat × Nat × Nat × Nat)} (hcode : Cond.codeWith y bytes maxL ret hh ∈ AG) : GoodIn AG (Cond.codeWith y bytes maxL ret hh :: AG) := fun w h => (List.mem_cons.mp h).elim (fun e => by rw [e]; exact AG_good _ hcode) (fun h => AG_good w h)
/-- two clients -/
def ad2S (ad bd : Nat → Nat) : Nat → Prop := fun q => adS 69 ad q ∨ adS 69 bd q
def PW2 (dC : Nat → ClassId) (dI : Nat → Nat → Nat) (cA : Nat → ClassId) (ad bd : Nat → Nat) (M N : Mem) (U : State) : Prop := va_P (dC, dI) vwCl (wld 69 layC cA ad M) U.heap ∧ va_P (dC, dI) vwCl (wld 69 layC cA bd N) U.heap ∧ va_K (dC, dI) vwCl (tys4 cA) U ∧ KX (ad2S ad bd) U ∧ NCp U
def PC2 (dC : Nat → ClassId) (dI : Nat → Nat → Nat) (cA : Nat → ClassId) (ad bd : Nat → Nat) (z : Mem × Mem) (U : State) : Prop := va_P (dC, dI) vwCl (wld 69 layC cA ad z.1) U.heap ∧ va_P (dC, dI) vwCl (wld 69 layC cA bd z.2) U.heap
theorem PW2_blind {dC : Nat → ClassId} {dI : Nat → Nat → Nat} {cA : Nat → ClassId} {ad bd : Nat → Nat} {M N : Mem} {av : List Value} : FrameBlind (va_Pc av (PW2 dC dI cA ad bd M N)) :=
  fun a U g mk q => ⟨q.1, q.2.1, q.2.2.1, va_K.moved (u := U) (U := U.calling g mk a) (Vm.Alike.refl U.vm) q.2.2.2.1, q.2.2.2.2.1.same rfl rfl, NCp.moved (u := U) (U := U.calling g mk a) (Vm.Alike.refl U.vm) q.2.2.2.2.2⟩
section LROWS
variable {p : Program} {l : Launch} {e : Env} {R : Room} {s : State} {m : MethodId} {args : Array Value} {below : List Frame} {meth : Method} {c : Code} {H : Heap} {locs : List Loc} {cells slots : Nat} {Q : State → Prop}
variable {cc bytes : ByteArray} {pc nL maxL nn index mc ms : Nat} {ls : Array Slot} {rest As st0 : List Value} {dC : Nat → ClassId} {dI : Nat → Nat → Nat} {cA : Nat → ClassId} {ad bd : Nat → Nat} {M M2 : Mem} {A : Nat → Prop} {own : String} {y : MethodName} {ret : Option FieldType} {rm : Room} {hh : List (Nat × Nat × Nat × Nat)}
theorem mkSW (hts : ∀ w ∈ AG, w.before args s = true) (hcode : Cond.codeWith y bytes maxL ret hh ∈ AG) (hini : Cond.initialized y.cls ∈ AG) (hl : Cond.methodLink own index y ∈ AG) (hst : Cond.static y ∈ AG)
    (hd : y.cls ≠ "java/lang/invoke/MethodHandle" ∧ y.cls ≠ "java/lang/invoke/VarHandle" ∧ (parseMethodDescriptor y.desc).map (fun d => d.parameters.length) = some nn) (hrc : rm.cells = mc) (hrs : rm.slots = ms) (hR : rm.frames + 1 ≤ R.frames ∧ 8 + (maxL + 11) + rm.locals ≤ R.locals) :
    vx_CSW R s args own index y bytes maxL ret hh (Cond.codeWith y bytes maxL ret hh :: AG) rm mc ms nn :=
  vx_cwSW nn hts (fun w h => (List.mem_append.mp h).elim (fun h => by
    rcases List.mem_cons.mp h with rfl | h
    · exact AG_good _ hl
    · rcases List.mem_cons.mp h with rfl | h
      · exact AG_good _ hst
      · rw [List.mem_singleton.mp h]; exact AG_good _ hini) (fun h => good_cW hcode w h)) rfl hrc hrs hd hR
/-- a short method's call -/
theorem kWi (hx : p.tables.exec = Jvm.exec) (hb : c.code = cc) (hml : c.maxLocals = nL) (hown : s.vm.findClass own = some m.cls) (hts : ∀ w ∈ AG, w.before args s = true) (hK : va_K (dC, dI) vwCl (tys4 cA) s) (hP : va_P (dC, dI) vwCl (wld 69 layC cA ad M) H) (hS : va_S A s.heap H locs) (hKX : KX A s) (hNC : NCp s) (hA : ∀ q, adS 69 ad q → A q) {post : Int32 → Mem → Prop}
    (hM : Met l y (Cond.codeWith y bytes maxL ret hh :: AG) rm (va_Pc As (PWz dC dI cA ad M)) (va_Qi post (PC dC dI cA ad) (adS 69 ad)) mc ms (adS 69 ad))
    (cw : vx_CSW R s args own index y bytes maxL ret hh (Cond.codeWith y bytes maxL ret hh :: AG) rm mc ms nn)
    (hn : As.length = nn) (hsz : ls.size = nL) (hst : st0 = As.reverse ++ rest) (hrm : (rest.map fun v => v.category).sum ≤ 8) (hdg : decode cc pc = .ok (.invokestatic index, 3)) (hf : cells + mc ≤ R.cells ∧ slots + ms ≤ R.slots)
    (kk : ∀ (r : Int32) (u : Mem) (H1 : Heap) (locs1 : List Loc), post r u → va_P (dC, dI) vwCl (wld 69 layC cA ad u) H1 → va_S A s.heap H1 locs1 → H.size ≤ H1.size → (∀ q : Nat, q < H.size → ¬ adS 69 ad q → H1[q]? = H[q]?) → W p l e R s m args below meth c H1 locs1 (cells + mc) (slots + ms) Q (F0 m (pc + 3) ls (.int r :: rest))) : W p l e R s m args below meth c H locs cells slots Q (F0 m pc ls st0) := by
  refine va_calli (vx_runSW (As := As) (rest := rest) (Ts := AG) ⟨hx, hb, hml, hown, hts⟩ hM cw ⟨PWz_blind, fun U hU hW => ⟨rfl, ⟨⟨by rw [hU]; exact hP, va_K.moved hW.alike hK⟩, hKX.nar hS hU hW hA⟩, NCp.moved hW.alike hNC⟩⟩ rfl hn hsz hst (lv_room hrm) hdg hf) hS (fun q _ h => hA q h) hA (fun r u t H1 locs1 ht hvm hw hB hz hk hS1 => ?_)
  subst ht
  exact kk r u t.heap locs1 hw hB.1 hS1 hz hk
theorem kWl (hx : p.tables.exec = Jvm.exec) (hb : c.code = cc) (hml : c.maxLocals = nL) (hown : s.vm.findClass own = some m.cls) (hts : ∀ w ∈ AG, w.before args s = true) (hK : va_K (dC, dI) vwCl (tys4 cA) s) (hP : va_P (dC, dI) vwCl (wld 69 layC cA ad M) H) (hS : va_S A s.heap H locs) (hKX : KX A s) (hNC : NCp s) (hA : ∀ q, adS 69 ad q → A q) {post : Int64 → Mem → Prop}
    (hM : Met l y (Cond.codeWith y bytes maxL ret hh :: AG) rm (va_Pc As (PWz dC dI cA ad M)) (va_Ql post (PC dC dI cA ad) (adS 69 ad)) mc ms (adS 69 ad))
    (cw : vx_CSW R s args own index y bytes maxL ret hh (Cond.codeWith y bytes maxL ret hh :: AG) rm mc ms nn)
    (hn : As.length = nn) (hsz : ls.size = nL) (hst : st0 = As.reverse ++ rest) (hrm : (rest.map fun v => v.category).sum ≤ 8) (hdg : decode cc pc = .ok (.invokestatic index, 3)) (hf : cells + mc ≤ R.cells ∧ slots + ms ≤ R.slots)
    (kk : ∀ (r : Int64) (u : Mem) (H1 : Heap) (locs1 : List Loc), post r u → va_P (dC, dI) vwCl (wld 69 layC cA ad u) H1 → va_S A s.heap H1 locs1 → H.size ≤ H1.size → (∀ q : Nat, q < H.size → ¬ adS 69 ad q → H1[q]? = H[q]?) → W p l e R s m args below meth c H1 locs1 (cells + mc) (slots + ms) Q (F0 m (pc + 3) ls (.long r :: rest))) : W p l e R s m args below meth c H locs cells slots Q (F0 m pc ls st0) := by
  refine va_calll (vx_runSW (As := As) (rest := rest) (Ts := AG) ⟨hx, hb, hml, hown, hts⟩ hM cw ⟨PWz_blind, fun U hU hW => ⟨rfl, ⟨⟨by rw [hU]; exact hP, va_K.moved hW.alike hK⟩, hKX.nar hS hU hW hA⟩, NCp.moved hW.alike hNC⟩⟩ rfl hn hsz hst (lv_room hrm) hdg hf) hS (fun q _ h => hA q h) hA (fun r u t H1 locs1 ht hvm hw hB hz hk hS1 => ?_)
  subst ht
  exact kk r u t.heap locs1 hw hB.1 hS1 hz hk
/-- a longer method's call, over one client and over two -/
theorem kM1 (hx : p.tables.exec = Jvm.exec) (hb : c.code = cc) (hml : c.maxLocals = nL) (hown : s.vm.findClass own = some m.cls) (hts : ∀ w ∈ AG, w.before args s = true) (hK : va_K (dC, dI) vwCl (tys4 cA) s) (hP : va_P (dC, dI) vwCl (wld 69 layC cA ad M) H) (hS : va_S A s.heap H locs) (hKX : KX A s) (hNC : NCp s) (hA : ∀ q, adS 69 ad q → A q) {post : Int32 → Mem → Prop}
    (hM : Met l y (Cond.code y bytes maxL ret :: AG) rm (va_Pc As (PWz dC dI cA ad M)) (va_Qi post (PC dC dI cA ad) (adS 69 ad)) mc ms (adS 69 ad))
    (cw : CallB R s args own index y bytes maxL ret (Cond.code y bytes maxL ret :: AG) rm mc ms nn ∧ (Cond.static y).before args s = true)
    (hn : As.length = nn) (hsz : ls.size = nL) (hst : st0 = As.reverse ++ rest) (hrm : (rest.map fun v => v.category).sum ≤ 8) (hdg : decode cc pc = .ok (.invokestatic index, 3)) (hf : cells + mc ≤ R.cells ∧ slots + ms ≤ R.slots)
    (kk : ∀ (r : Int32) (u : Mem) (H1 : Heap) (locs1 : List Loc), post r u → va_P (dC, dI) vwCl (wld 69 layC cA ad u) H1 → va_S A s.heap H1 locs1 → H.size ≤ H1.size → (∀ q : Nat, q < H.size → ¬ adS 69 ad q → H1[q]? = H[q]?) → W p l e R s m args below meth c H1 locs1 (cells + mc) (slots + ms) Q (F0 m (pc + 3) ls (.int r :: rest))) : W p l e R s m args below meth c H locs cells slots Q (F0 m pc ls st0) := by
  refine va_calli (va_runS (As := As) (rest := rest) ⟨hx, hb, hml, hown, hts⟩ hM cw ⟨PWz_blind, fun U hU hW => ⟨rfl, ⟨⟨by rw [hU]; exact hP, va_K.moved hW.alike hK⟩, hKX.nar hS hU hW hA⟩, NCp.moved hW.alike hNC⟩⟩ rfl hn hsz hst (lv_room hrm) hdg hf) hS (fun q _ h => hA q h) hA (fun r u t H1 locs1 ht hvm hw hB hz hk hS1 => ?_)
  subst ht
  exact kk r u t.heap locs1 hw hB.1 hS1 hz hk
theorem kM2 (hx : p.tables.exec = Jvm.exec) (hb : c.code = cc) (hml : c.maxLocals = nL) (hown : s.vm.findClass own = some m.cls) (hts : ∀ w ∈ AG, w.before args s = true) (hK : va_K (dC, dI) vwCl (tys4 cA) s) (hP : va_P (dC, dI) vwCl (wld 69 layC cA ad M) H) (hP2 : va_P (dC, dI) vwCl (wld 69 layC cA bd M2) H) (hS : va_S A s.heap H locs) (hKX : KX A s) (hNC : NCp s) (hA : ∀ q, adS 69 ad q → A q) (hA2 : ∀ q, adS 69 bd q → A q) {post : Int32 → Mem × Mem → Prop}
    (hM : Met l y (Cond.code y bytes maxL ret :: AG) rm (va_Pc As (PW2 dC dI cA ad bd M M2)) (va_Qi post (PC2 dC dI cA ad bd) (ad2S ad bd)) mc ms (ad2S ad bd))
    (cw : CallB R s args own index y bytes maxL ret (Cond.code y bytes maxL ret :: AG) rm mc ms nn ∧ (Cond.static y).before args s = true)
    (hn : As.length = nn) (hsz : ls.size = nL) (hst : st0 = As.reverse ++ rest) (hrm : (rest.map fun v => v.category).sum ≤ 8) (hdg : decode cc pc = .ok (.invokestatic index, 3)) (hf : cells + mc ≤ R.cells ∧ slots + ms ≤ R.slots)
    (kk : ∀ (r : Int32) (z : Mem × Mem) (H1 : Heap) (locs1 : List Loc), post r z → va_P (dC, dI) vwCl (wld 69 layC cA ad z.1) H1 → va_P (dC, dI) vwCl (wld 69 layC cA bd z.2) H1 → va_S A s.heap H1 locs1 → W p l e R s m args below meth c H1 locs1 (cells + mc) (slots + ms) Q (F0 m (pc + 3) ls (.int r :: rest))) : W p l e R s m args below meth c H locs cells slots Q (F0 m pc ls st0) := by
  have hA' : ∀ q, ad2S ad bd q → A q := fun q h => h.elim (hA q) (hA2 q)
  refine va_calli (va_runS (As := As) (rest := rest) ⟨hx, hb, hml, hown, hts⟩ hM cw ⟨PW2_blind, fun U hU hW => ⟨rfl, by rw [hU]; exact hP, by rw [hU]; exact hP2, va_K.moved hW.alike hK, hKX.nar hS hU hW hA', NCp.moved hW.alike hNC⟩⟩ rfl hn hsz hst (lv_room hrm) hdg hf) hS (fun q _ h => hA' q h) hA' (fun r u t H1 locs1 ht hvm hw hB hz hk hS1 => ?_)
  subst ht
  exact kk r u t.heap locs1 hw hB.1 hB.2 hS1
end LROWS
/-- a longer method's contract from its walk: one client -/
theorem yMet {l : Launch} {y : MethodName} {b : ByteArray} {n mc ms : Nat} {ret : Option FieldType} {rm : Room} {dC : Nat → ClassId} {dI : Nat → Nat → Nat} {cA : Nat → ClassId} {ad : Nat → Nat} {M : Mem} {av : List Value} {Qc : Array Value → State → Outcome → State → Prop}
    (hy : plainName y.cls = true) (hn : (lg_sl av).length ≤ n)
    (body : ∀ (p : Program) (e : Env) (s : State) (m : MethodId) (below : List Frame) (meth : Method) (c : Code) (ls : Array Slot), p.tables.exec = Jvm.exec → c.code = b → meth.sig.returnType = ret → c.maxLocals = n → meth.locks = false → s.vm.findClass y.cls = some m.cls → (∀ w ∈ AG, w.before av.toArray s = true) →
      va_K (dC, dI) vwCl (tys4 cA) s → va_P (dC, dI) vwCl (wld 69 layC cA ad M) s.heap → va_S (adS 69 ad) s.heap s.heap [] → lv_has ls n (lv_args 0 av) → KX (adS 69 ad) s → NCp s →
      W p l e rm s m av.toArray below meth c s.heap [] 0 0 (MQ below Qc av.toArray s mc ms (adS 69 ad)) (F0 m 0 ls [])) :
    Met l y (.code y b n ret :: AG) rm (va_Pc av (PWz dC dI cA ad M)) Qc mc ms (adS 69 ad) := by
  refine Met.ofW (cc := b) (maxL := n) (ret := ret) hy rfl ?_
  intro p e s m args below meth c s₁ B hml hv
  obtain ⟨rfl, ⟨⟨hP, hK⟩, hKX⟩, hNC⟩ := hv
  have hts := atoms_spec (ws := Cond.code y b n ret :: AG) B.pre
  rw [lg_entry_eq]
  exact body p e s m below meth c _ B.exec B.bytes B.returns hml B.notSynchronized (findClass_of_methodNamed B.named) (fun w h => hts w (List.mem_cons_of_mem _ h)) hK hP va_S.rf (lv_entry av hn) hKX hNC
theorem yMet2 {l : Launch} {y : MethodName} {b : ByteArray} {n mc ms : Nat} {ret : Option FieldType} {rm : Room} {dC : Nat → ClassId} {dI : Nat → Nat → Nat} {cA : Nat → ClassId} {ad bd : Nat → Nat} {M N : Mem} {av : List Value} {Qc : Array Value → State → Outcome → State → Prop}
    (hy : plainName y.cls = true) (hn : (lg_sl av).length ≤ n)
    (body : ∀ (p : Program) (e : Env) (s : State) (m : MethodId) (below : List Frame) (meth : Method) (c : Code) (ls : Array Slot), p.tables.exec = Jvm.exec → c.code = b → meth.sig.returnType = ret → c.maxLocals = n → meth.locks = false → s.vm.findClass y.cls = some m.cls → (∀ w ∈ AG, w.before av.toArray s = true) →
      va_K (dC, dI) vwCl (tys4 cA) s → va_P (dC, dI) vwCl (wld 69 layC cA ad M) s.heap → va_P (dC, dI) vwCl (wld 69 layC cA bd N) s.heap → va_S (ad2S ad bd) s.heap s.heap [] → lv_has ls n (lv_args 0 av) → KX (ad2S ad bd) s → NCp s →
      W p l e rm s m av.toArray below meth c s.heap [] 0 0 (MQ below Qc av.toArray s mc ms (ad2S ad bd)) (F0 m 0 ls [])) :
    Met l y (.code y b n ret :: AG) rm (va_Pc av (PW2 dC dI cA ad bd M N)) Qc mc ms (ad2S ad bd) := by
  refine Met.ofW (cc := b) (maxL := n) (ret := ret) hy rfl ?_
  intro p e s m args below meth c s₁ B hml hv
  obtain ⟨rfl, hP, hP2, hK, hKX, hNC⟩ := hv
  have hts := atoms_spec (ws := Cond.code y b n ret :: AG) B.pre
  rw [lg_entry_eq]
  exact body p e s m below meth c _ B.exec B.bytes B.returns hml B.notSynchronized (findClass_of_methodNamed B.named) (fun w h => hts w (List.mem_cons_of_mem _ h)) hK hP hP2 va_S.rf (lv_entry av hn) hKX hNC
