section CALLS
variable {p : Program} {l : Launch} {e : Env} {R : Room} {s : State} {m : MethodId} {args : Array Value} {below : List Frame} {meth : Method} {c : Code} {H : Heap} {locs : List Loc} {cells slots : Nat} {Q : State → Prop}
variable {cc bytes : ByteArray} {pc nL maxL nn index mc ms : Nat} {ls : Array Slot} {rest As st0 : List Value} {N : Nat} {lay : Nat → Dsc} {dC : Nat → ClassId} {dI : Nat → Nat → Nat} {cA : Nat → ClassId} {ad : Nat → Nat} {M : Mem} {A : Nat → Prop} {H0 : Heap} {own C : String} {y : MethodName} {ret : Option FieldType} {rm : Room} {b : Addr}
theorem good_c (hcode : Cond.code y bytes maxL ret ∈ AG) : GoodIn AG (Cond.code y bytes maxL ret :: AG) := fun w h => (List.mem_cons.mp h).elim (fun e => by rw [e]; exact AG_good _ hcode) (fun h => AG_good w h)
theorem mkB (hts : ∀ w ∈ AG, w.before args s = true) (hcode : Cond.code y bytes maxL ret ∈ AG) (hini : Cond.initialized y.cls ∈ AG) (hl : Cond.methodLink own index y ∈ AG)
    (hd : y.cls ≠ "java/lang/invoke/MethodHandle" ∧ y.cls ≠ "java/lang/invoke/VarHandle" ∧ (parseMethodDescriptor y.desc).map (fun d => d.parameters.length) = some nn) (hrc : rm.cells = mc) (hrs : rm.slots = ms) (hR : rm.frames + 1 ≤ R.frames ∧ 8 + (maxL + 11) + rm.locals ≤ R.locals) :
    CallB R s args own index y bytes maxL ret (Cond.code y bytes maxL ret :: AG) rm mc ms nn :=
  callB_of nn hts (good_c hcode) rfl hrc hrs (hts _ hini) (hts _ hl) hd hR
theorem mkV (hts : ∀ w ∈ AG, w.before args s = true) (hcode : Cond.code y bytes maxL ret ∈ AG) (hini : Cond.initialized y.cls ∈ AG) (hl : Cond.methodLink own index y ∈ AG) (hinst : Cond.instanceMethod y ∈ AG) (hsel : Cond.selects C y y ∈ AG)
    (hd : y.cls ≠ "java/lang/invoke/MethodHandle" ∧ y.cls ≠ "java/lang/invoke/VarHandle" ∧ (parseMethodDescriptor y.desc).map (fun d => d.parameters.length) = some nn) (hrc : rm.cells = mc) (hrs : rm.slots = ms) (hR : rm.frames + 1 ≤ R.frames ∧ 8 + (maxL + 11) + rm.locals ≤ R.locals) :
    CallW R s args own C index y bytes maxL ret (Cond.code y bytes maxL ret :: AG) rm mc ms nn :=
  ⟨mkB hts hcode hini hl hd hrc hrs hR, hts _ hinst, hts _ hsel⟩
theorem mkS (hts : ∀ w ∈ AG, w.before args s = true) (hcode : Cond.code y bytes maxL ret ∈ AG) (hini : Cond.initialized y.cls ∈ AG) (hl : Cond.methodLink own index y ∈ AG) (hst : Cond.static y ∈ AG)
    (hd : y.cls ≠ "java/lang/invoke/MethodHandle" ∧ y.cls ≠ "java/lang/invoke/VarHandle" ∧ (parseMethodDescriptor y.desc).map (fun d => d.parameters.length) = some nn) (hrc : rm.cells = mc) (hrs : rm.slots = ms) (hR : rm.frames + 1 ≤ R.frames ∧ 8 + (maxL + 11) + rm.locals ≤ R.locals) :
    CallB R s args own index y bytes maxL ret (Cond.code y bytes maxL ret :: AG) rm mc ms nn ∧ (Cond.static y).before args s = true :=
  ⟨mkB hts hcode hini hl hd hrc hrs hR, hts _ hst⟩

theorem kVi (hx : p.tables.exec = Jvm.exec) (hb : c.code = cc) (hml : c.maxLocals = nL) (hown : s.vm.findClass own = some m.cls) (hts : ∀ w ∈ AG, w.before args s = true) (hK : va_K (dC, dI) vwCl (tys4 cA) s) (hP : va_P (dC, dI) vwCl (wld N lay cA ad M) H) (hS : va_S A H0 H locs) (hA : ∀ q, adS N ad q → A q) {post : Int32 → Mem → Prop}
    (hM : Met l y (Cond.code y bytes maxL ret :: AG) rm (va_Pc (.ref b :: As) (PCw N lay dC dI cA ad M)) (va_Qi post (PCw N lay dC dI cA ad) (adS N ad)) 0 0 (adS N ad))
    (cw : CallW R s args own C index y bytes maxL ret (Cond.code y bytes maxL ret :: AG) rm 0 0 nn) (hr : ∃ cell : Cell, H[b]? = some cell ∧ cell.vm.isStatics = false ∧ s.vm.findClass C = some cell.cls)
    (hn : As.length = nn) (hsz : ls.size = nL) (hst : st0 = As.reverse ++ .ref b :: rest) (hrm : (rest.map fun v => v.category).sum ≤ 8) (hdg : decode cc pc = .ok (.invokevirtual index, 3)) (hf : cells ≤ R.cells ∧ slots ≤ R.slots)
    (kk : ∀ (r : Int32) (u : Mem) (H1 : Heap) (locs1 : List Loc), post r u → va_P (dC, dI) vwCl (wld N lay cA ad u) H1 → va_S A H0 H1 locs1 → H.size ≤ H1.size → (∀ q : Nat, q < H.size → ¬ adS N ad q → H1[q]? = H[q]?) → W p l e R s m args below meth c H1 locs1 cells slots Q (F0 m (pc + 3) ls (.int r :: rest))) : W p l e R s m args below meth c H locs cells slots Q (F0 m pc ls st0) := by
  refine va_calli (va_runV (As := As) (rest := rest) ⟨hx, hb, hml, hown, hts⟩ hM cw ⟨PCw_blind, hr, fun U hU hW => ⟨rfl, by rw [hU]; exact hP, va_K.moved hW.alike hK⟩⟩ rfl hn hsz hst (lv_room hrm) hdg hf) hS (fun q _ h => hA q h) hA (fun r u t H1 locs1 ht hvm hw hB hz hk hS1 => ?_)
  subst ht
  exact kk r u t.heap locs1 hw hB.1 hS1 hz hk
theorem kVl (hx : p.tables.exec = Jvm.exec) (hb : c.code = cc) (hml : c.maxLocals = nL) (hown : s.vm.findClass own = some m.cls) (hts : ∀ w ∈ AG, w.before args s = true) (hK : va_K (dC, dI) vwCl (tys4 cA) s) (hP : va_P (dC, dI) vwCl (wld N lay cA ad M) H) (hS : va_S A H0 H locs) (hA : ∀ q, adS N ad q → A q) {post : Int64 → Mem → Prop}
    (hM : Met l y (Cond.code y bytes maxL ret :: AG) rm (va_Pc (.ref b :: As) (PCw N lay dC dI cA ad M)) (va_Ql post (PCw N lay dC dI cA ad) (adS N ad)) 0 0 (adS N ad))
    (cw : CallW R s args own C index y bytes maxL ret (Cond.code y bytes maxL ret :: AG) rm 0 0 nn) (hr : ∃ cell : Cell, H[b]? = some cell ∧ cell.vm.isStatics = false ∧ s.vm.findClass C = some cell.cls)
    (hn : As.length = nn) (hsz : ls.size = nL) (hst : st0 = As.reverse ++ .ref b :: rest) (hrm : (rest.map fun v => v.category).sum ≤ 8) (hdg : decode cc pc = .ok (.invokevirtual index, 3)) (hf : cells ≤ R.cells ∧ slots ≤ R.slots)
    (kk : ∀ (r : Int64) (u : Mem) (H1 : Heap) (locs1 : List Loc), post r u → va_P (dC, dI) vwCl (wld N lay cA ad u) H1 → va_S A H0 H1 locs1 → H.size ≤ H1.size → (∀ q : Nat, q < H.size → ¬ adS N ad q → H1[q]? = H[q]?) → W p l e R s m args below meth c H1 locs1 cells slots Q (F0 m (pc + 3) ls (.long r :: rest))) : W p l e R s m args below meth c H locs cells slots Q (F0 m pc ls st0) := by
  refine va_calll (va_runV (As := As) (rest := rest) ⟨hx, hb, hml, hown, hts⟩ hM cw ⟨PCw_blind, hr, fun U hU hW => ⟨rfl, by rw [hU]; exact hP, va_K.moved hW.alike hK⟩⟩ rfl hn hsz hst (lv_room hrm) hdg hf) hS (fun q _ h => hA q h) hA (fun r u t H1 locs1 ht hvm hw hB hz hk hS1 => ?_)
  subst ht
  exact kk r u t.heap locs1 hw hB.1 hS1 hz hk
theorem kVv (hx : p.tables.exec = Jvm.exec) (hb : c.code = cc) (hml : c.maxLocals = nL) (hown : s.vm.findClass own = some m.cls) (hts : ∀ w ∈ AG, w.before args s = true) (hK : va_K (dC, dI) vwCl (tys4 cA) s) (hP : va_P (dC, dI) vwCl (wld N lay cA ad M) H) (hS : va_S A H0 H locs) (hA : ∀ q, adS N ad q → A q) {post : Mem → Prop}
    (hM : Met l y (Cond.code y bytes maxL ret :: AG) rm (va_Pc (.ref b :: As) (PCw N lay dC dI cA ad M)) (va_Qv post (PCw N lay dC dI cA ad) (adS N ad)) 0 0 (adS N ad))
    (cw : CallW R s args own C index y bytes maxL ret (Cond.code y bytes maxL ret :: AG) rm 0 0 nn) (hr : ∃ cell : Cell, H[b]? = some cell ∧ cell.vm.isStatics = false ∧ s.vm.findClass C = some cell.cls)
    (hn : As.length = nn) (hsz : ls.size = nL) (hst : st0 = As.reverse ++ .ref b :: rest) (hrm : (rest.map fun v => v.category).sum ≤ 8) (hdg : decode cc pc = .ok (.invokevirtual index, 3)) (hf : cells ≤ R.cells ∧ slots ≤ R.slots)
    (kk : ∀ (u : Mem) (H1 : Heap) (locs1 : List Loc), post u → va_P (dC, dI) vwCl (wld N lay cA ad u) H1 → va_S A H0 H1 locs1 → H.size ≤ H1.size → (∀ q : Nat, q < H.size → ¬ adS N ad q → H1[q]? = H[q]?) → W p l e R s m args below meth c H1 locs1 cells slots Q (F0 m (pc + 3) ls rest)) : W p l e R s m args below meth c H locs cells slots Q (F0 m pc ls st0) := by
  refine va_callv (va_runV (As := As) (rest := rest) ⟨hx, hb, hml, hown, hts⟩ hM cw ⟨PCw_blind, hr, fun U hU hW => ⟨rfl, by rw [hU]; exact hP, va_K.moved hW.alike hK⟩⟩ rfl hn hsz hst (lv_room hrm) hdg hf) hS (fun q _ h => hA q h) hA (fun u t H1 locs1 ht hvm hw hB hz hk hS1 => ?_)
  subst ht
  exact kk u t.heap locs1 hw hB.1 hS1 hz hk
theorem kVq (hx : p.tables.exec = Jvm.exec) (hb : c.code = cc) (hml : c.maxLocals = nL) (hown : s.vm.findClass own = some m.cls) (hts : ∀ w ∈ AG, w.before args s = true) (hK : va_K (dC, dI) vwCl (tys4 cA) s) (hP : va_P (dC, dI) vwCl (wld N lay cA ad M) H) (hS : va_S A H0 H locs) (hA : ∀ q, adS N ad q → A q) {post : Option Nat → Mem → Prop}
    (hM : Met l y (Cond.code y bytes maxL ret :: AG) rm (va_Pc (.ref b :: As) (PCw N lay dC dI cA ad M)) (va_Qq post (PCw N lay dC dI cA ad) (adS N ad)) 0 0 (adS N ad))
    (cw : CallW R s args own C index y bytes maxL ret (Cond.code y bytes maxL ret :: AG) rm 0 0 nn) (hr : ∃ cell : Cell, H[b]? = some cell ∧ cell.vm.isStatics = false ∧ s.vm.findClass C = some cell.cls)
    (hn : As.length = nn) (hsz : ls.size = nL) (hst : st0 = As.reverse ++ .ref b :: rest) (hrm : (rest.map fun v => v.category).sum ≤ 8) (hdg : decode cc pc = .ok (.invokevirtual index, 3)) (hf : cells ≤ R.cells ∧ slots ≤ R.slots)
    (kk : ∀ (r : Option Nat) (u : Mem) (H1 : Heap) (locs1 : List Loc), post r u → va_P (dC, dI) vwCl (wld N lay cA ad u) H1 → va_S A H0 H1 locs1 → H.size ≤ H1.size → (∀ q : Nat, q < H.size → ¬ adS N ad q → H1[q]? = H[q]?) → W p l e R s m args below meth c H1 locs1 cells slots Q (F0 m (pc + 3) ls (va_rf r :: rest))) : W p l e R s m args below meth c H locs cells slots Q (F0 m pc ls st0) := by
  refine va_callq (va_runV (As := As) (rest := rest) ⟨hx, hb, hml, hown, hts⟩ hM cw ⟨PCw_blind, hr, fun U hU hW => ⟨rfl, by rw [hU]; exact hP, va_K.moved hW.alike hK⟩⟩ rfl hn hsz hst (lv_room hrm) hdg hf) hS (fun q _ h => hA q h) hA (fun r u t H1 locs1 ht hvm hw hB hz hk hS1 => ?_)
  subst ht
  exact kk r u t.heap locs1 hw hB.1 hS1 hz hk
theorem kSi (hx : p.tables.exec = Jvm.exec) (hb : c.code = cc) (hml : c.maxLocals = nL) (hown : s.vm.findClass own = some m.cls) (hts : ∀ w ∈ AG, w.before args s = true) {z : Int32}
    (hM : Met l y (Cond.code y bytes maxL ret :: AG) rm (fun v _ => v = As.toArray) (vp_Si (fun r => r = z)) 0 0 (fun _ => False))
    (cw : CallB R s args own index y bytes maxL ret (Cond.code y bytes maxL ret :: AG) rm 0 0 nn ∧ (Cond.static y).before args s = true)
    (hn : As.length = nn) (hsz : ls.size = nL) (hst : st0 = As.reverse ++ rest) (hrm : (rest.map fun v => v.category).sum ≤ 8) (hdg : decode cc pc = .ok (.invokestatic index, 3)) (hf : cells ≤ R.cells ∧ slots ≤ R.slots)
    (kk : W p l e R s m args below meth c H locs cells slots Q (F0 m (pc + 3) ls (.int z :: rest))) : W p l e R s m args below meth c H locs cells slots Q (F0 m pc ls st0) :=
  vp_callSi (W.runS (As := As) (rest := rest) ⟨hx, hb, hml, hown, hts⟩ hM cw preEq rfl hn hsz hst (lv_room hrm) hdg hf) (fun r hr => by rw [hr]; exact kk)
theorem kSl (hx : p.tables.exec = Jvm.exec) (hb : c.code = cc) (hml : c.maxLocals = nL) (hown : s.vm.findClass own = some m.cls) (hts : ∀ w ∈ AG, w.before args s = true) {z : Int64}
    (hM : Met l y (Cond.code y bytes maxL ret :: AG) rm (fun v _ => v = As.toArray) (vp_Sl (fun r => r = z)) 0 0 (fun _ => False))
    (cw : CallB R s args own index y bytes maxL ret (Cond.code y bytes maxL ret :: AG) rm 0 0 nn ∧ (Cond.static y).before args s = true)
    (hn : As.length = nn) (hsz : ls.size = nL) (hst : st0 = As.reverse ++ rest) (hrm : (rest.map fun v => v.category).sum ≤ 8) (hdg : decode cc pc = .ok (.invokestatic index, 3)) (hf : cells ≤ R.cells ∧ slots ≤ R.slots)
    (kk : W p l e R s m args below meth c H locs cells slots Q (F0 m (pc + 3) ls (.long z :: rest))) : W p l e R s m args below meth c H locs cells slots Q (F0 m pc ls st0) :=
  vp_callSl (W.runS (As := As) (rest := rest) ⟨hx, hb, hml, hown, hts⟩ hM cw preEq rfl hn hsz hst (lv_room hrm) hdg hf) (fun r hr => by rw [hr]; exact kk)
end CALLS
theorem sMet {l : Launch} {y : MethodName} {b : ByteArray} {n : Nat} {ret : Option FieldType} {rm : Room} {av : List Value} {Qc : Array Value → State → Outcome → State → Prop}
    (hy : plainName y.cls = true) (hn : (lg_sl av).length ≤ n)
    (body : ∀ (p : Program) (e : Env) (s : State) (m : MethodId) (below : List Frame) (meth : Method) (c : Code) (ls : Array Slot), p.tables.exec = Jvm.exec → c.code = b → meth.sig.returnType = ret → c.maxLocals = n → meth.locks = false → s.vm.findClass y.cls = some m.cls → (∀ w ∈ AG, w.before av.toArray s = true) → lv_has ls n (lv_args 0 av) →
      W p l e rm s m av.toArray below meth c s.heap [] 0 0 (MQ below Qc av.toArray s 0 0 (fun _ => False)) (F0 m 0 ls [])) :
    Met l y (.code y b n ret :: AG) rm (fun v _ => v = av.toArray) Qc 0 0 (fun _ => False) := by
  refine Met.ofW (cc := b) (maxL := n) (ret := ret) hy rfl ?_
  intro p e s m args below meth c s₁ B hml hv
  subst hv
  have hts := atoms_spec (ws := Cond.code y b n ret :: AG) B.pre
  rw [lg_entry_eq]
  exact body p e s m below meth c _ B.exec B.bytes B.returns hml B.notSynchronized (findClass_of_methodNamed B.named) (fun w h => hts w (List.mem_cons_of_mem _ h)) (lv_entry av hn)
/-! a named step of a method's meaning -/
def bnd {α β : Type} (a : α) (f : α → β) : β := f a
theorem bnd_name {α β : Type} {V : β} {T x : α} {f : α → β} (hv : V = bnd T f) (ex : x = T) : V = f x := by rw [hv, ex]; rfl
theorem nI_lt1 {i : Nat} {c : Int32} (h : nI i < c) (hi : i < 2 ^ 31) : i < c.toNatClampNeg := by
  rw [Int32.lt_iff_toInt_lt, nI_toInt hi] at h
  show i < c.toInt.toNat
  omega
theorem nI_lt8 {i n : Nat} (h : nI i < nI n) (hi : i < 2 ^ 31) (hn : n < 2 ^ 31) : i < n := (nI_ltI hi hn).mp h
theorem cn_lt (c : Int32) : c.toNatClampNeg < 2 ^ 31 := by
  have h := c.toInt_lt
  show c.toInt.toNat < _
  omega
def bnd2 {α β γ : Type} (a : α × β) (f : α → β → γ) : γ := f a.1 a.2
theorem bnd2_name {α β γ : Type} {V : γ} {T : α × β} {x : α} {y : β} {f : α → β → γ} (hv : V = bnd2 T f) (ex : (x, y) = T) : V = f x y := by rw [hv, ← ex]; rfl
def opt {β : Type} (o : Option Nat) (a : β) (f : Nat → β) : β := match o with
  | none => a
  | some k => f k
theorem opt_none {β : Type} {o : Option Nat} {a : β} {f : Nat → β} (h : o = none) : opt o a f = a := by rw [h]; rfl
theorem opt_some {β : Type} {o : Option Nat} {a : β} {f : Nat → β} {k : Nat} (h : o = some k) : opt o a f = f k := by rw [h]; rfl
theorem vp_of {x : Int32} {n : Nat} (h1 : ¬ x < 0) (h2 : x < nI n) (hn : n < 2 ^ 31) : vp_in x n := by
  rw [vp_in_iff]
  rw [Int32.lt_iff_toInt_lt] at h1 h2
  rw [nI_toInt hn] at h2
  have h0 : (0 : Int32).toInt = 0 := by decide
  omega
theorem vp_lt {x : Int32} {n : Nat} (h : vp_in x n) : x.toNatClampNeg < n := Nat.not_le.mp fun q => h (Or.inr q)
theorem nar_b {x : Int32} (h : x = 0 ∨ x = 1) : narrow .boolean (.int x) = .int x := by rcases h with rfl | rfl <;> rfl
theorem sMetF {l : Launch} {y : MethodName} {b : ByteArray} {n : Nat} {ret : Option FieldType} {rm : Room} {av : List Value} {Qc : Array Value → State → Outcome → State → Prop}
    (hy : plainFor y = true) (hn : (lg_sl av).length ≤ n)
    (body : ∀ (p : Program) (e : Env) (s : State) (m : MethodId) (below : List Frame) (meth : Method) (c : Code) (ls : Array Slot), p.tables.exec = Jvm.exec → c.code = b → meth.sig.returnType = ret → c.maxLocals = n → meth.locks = false → s.vm.findClass y.cls = some m.cls → (∀ w ∈ AG, w.before av.toArray s = true) → lv_has ls n (lv_args 0 av) →
      W p l e rm s m av.toArray below meth c s.heap [] 0 0 (MQ below Qc av.toArray s 0 0 (fun _ => False)) (F0 m 0 ls [])) :
    Met l y (.code y b n ret :: AG) rm (fun v _ => v = av.toArray) Qc 0 0 (fun _ => False) := by
  refine MetFree.of_bodySF (code := b) (maxLocals := n) (ret := ret) hy ?_ ?_
  · intro args s m h hn
    obtain ⟨meth, c, h1, h2, h3, h4, h5, h6, -, -⟩ := Cond.code_spec hn (atoms_spec (ws := Cond.code y b n ret :: AG) h _ List.mem_cons_self)
    exact ⟨meth, c, h1, h2, h3, h4, h5, h6⟩
  · intro p e s m args below meth c s₁ B hml hP _
    have hh0 : s₁.heap = s.heap := by rw [B.state]; rfl
    subst hP
    have hts := atoms_spec (ws := Cond.code y b n ret :: AG) B.pre
    obtain ⟨t, a1, o, b1, b2, b3⟩ := (show W p l e rm s m av.toArray below meth c s.heap [] 0 0 (MQ below Qc av.toArray s 0 0 (fun _ => False)) (entryFrame m av.toArray n) by
      rw [lg_entry_eq]
      exact body p e s m below meth c _ B.exec B.bytes B.returns hml B.notSynchronized (findClass_of_methodNamed B.named) (fun w h => hts w (List.mem_cons_of_mem _ h)) (lv_entry av hn)) s₁ hh0 (Stand.of_body B)
    exact ⟨t, o, a1, b1, b2, b3⟩
theorem jd_ne {x : Int32} (h : ¬ x < 2) : ¬ (x - 1).toInt64 = 0 := by
  intro e
  have h1 : (x - 1).toInt64.toInt = 0 := by rw [e]; rfl
  rw [Int32.toInt_toInt64] at h1
  rw [Int32.lt_iff_toInt_lt] at h
  have h2 : (2 : Int32).toInt = 2 := by decide
  have h3 := x.toInt_lt
  have h4 : (x - 1).toInt = x.toInt - 1 := by
    rw [Int32.toInt_sub, show (1 : Int32).toInt = 1 by decide]
    exact Int.bmod_eq_of_le (by omega) (by omega)
  omega
theorem od_ne {x : Int32} (h : ¬ x < 1) : ¬ x.toInt64 = 0 := by
  intro e
  have h1 : x.toInt64.toInt = 0 := by rw [e]; rfl
  rw [Int32.toInt_toInt64] at h1
  rw [Int32.lt_iff_toInt_lt] at h
  have h2 : (1 : Int32).toInt = 1 := by decide
  omega
theorem pd_ne {x : Int64} (h : 0 < x) : ¬ x = 0 := by
  intro e
  rw [e] at h
  exact absurd h (by decide)
section ROWS2
variable {p : Program} {l : Launch} {e : Env} {R : Room} {s : State} {m : MethodId} {args : Array Value} {below : List Frame} {meth : Method} {c : Code} {H : Heap} {locs : List Loc} {cells slots : Nat} {Q : State → Prop}
variable {cc : ByteArray} {pc : Nat} {ls : Array Slot} {rest : List Value} {N : Nat} {lay : Nat → Dsc} {dC : Nat → ClassId} {dI : Nat → Nat → Nat} {cA : Nat → ClassId} {ad : Nat → Nat} {M : Mem} {A : Nat → Prop} {H0 : Heap}
theorem w_aldN (hx : p.tables.exec = Jvm.exec) (hb : c.code = cc) (hK : va_K (dC, dI) vwCl (tys4 cA) s) (hP : va_P (dC, dI) vwCl (wld N lay cA ad M) H) {k a n : Nat} {fds : List (Nat × Nat)} (hk : k < N) (hl : lay k = (4, a, n, fds)) {i : Nat} (hi : i < n) (hn : n < 2 ^ 31) (hdg : decode cc pc = .ok (.aaload, 1))
    (kk : W p l e R s m args below meth c H locs cells slots Q (F0 m (pc + 1) ls (.ref (ad (a + i)) :: rest))) : W p l e R s m args below meth c H locs cells slots Q (F0 m pc ls (.int (nI i) :: .ref (ad k) :: rest)) :=
  w_ald hx hb hK hP hk hl (vp_in_nI hi hn) hdg (by rw [nI_clamp (by omega)]; exact kk)
theorem w_laldN (hx : p.tables.exec = Jvm.exec) (hb : c.code = cc) (hK : va_K (dC, dI) vwCl (tys4 cA) s) (hP : va_P (dC, dI) vwCl (wld N lay cA ad M) H) {k a n : Nat} {fds : List (Nat × Nat)} (hk : k < N) (hl : lay k = (2, a, n, fds)) {i : Nat} (hi : i < n) (hn : n < 2 ^ 31) (hdg : decode cc pc = .ok (.laload, 1))
    (kk : W p l e R s m args below meth c H locs cells slots Q (F0 m (pc + 1) ls (.long (gJ M a i) :: rest))) : W p l e R s m args below meth c H locs cells slots Q (F0 m pc ls (.int (nI i) :: .ref (ad k) :: rest)) :=
  w_lald hx hb hK hP hk hl (vp_in_nI hi hn) hdg (by rw [nI_clamp (by omega)]; exact kk)
theorem w_ialdN (hx : p.tables.exec = Jvm.exec) (hb : c.code = cc) (hK : va_K (dC, dI) vwCl (tys4 cA) s) (hP : va_P (dC, dI) vwCl (wld N lay cA ad M) H) {k a n : Nat} {fds : List (Nat × Nat)} (hk : k < N) (hl : lay k = (1, a, n, fds)) {i : Nat} (hi : i < n) (hn : n < 2 ^ 31) (hdg : decode cc pc = .ok (.iaload, 1))
    (kk : W p l e R s m args below meth c H locs cells slots Q (F0 m (pc + 1) ls (.int (gB M a i) :: rest))) : W p l e R s m args below meth c H locs cells slots Q (F0 m pc ls (.int (nI i) :: .ref (ad k) :: rest)) :=
  w_iald hx hb hK hP hk hl (vp_in_nI hi hn) hdg (by rw [nI_clamp (by omega)]; exact kk)
theorem w_zaldN (hx : p.tables.exec = Jvm.exec) (hb : c.code = cc) (hK : va_K (dC, dI) vwCl (tys4 cA) s) (hP : va_P (dC, dI) vwCl (wld N lay cA ad M) H) {k a n : Nat} {fds : List (Nat × Nat)} (hk : k < N) (hl : lay k = (3, a, n, fds)) {i : Nat} (hi : i < n) (hn : n < 2 ^ 31) (hdg : decode cc pc = .ok (.baload, 1))
    (kk : W p l e R s m args below meth c H locs cells slots Q (F0 m (pc + 1) ls (.int (gB M a i) :: rest))) : W p l e R s m args below meth c H locs cells slots Q (F0 m pc ls (.int (nI i) :: .ref (ad k) :: rest)) :=
  w_zald hx hb hK hP hk hl (vp_in_nI hi hn) hdg (by rw [nI_clamp (by omega)]; exact kk)
theorem w_iastN (hx : p.tables.exec = Jvm.exec) (hb : c.code = cc) (hK : va_K (dC, dI) vwCl (tys4 cA) s) (hP : va_P (dC, dI) vwCl (wld N lay cA ad M) H) (hI : Inj N ad) (hS : va_S A H0 H locs) (hA : ∀ q, adS N ad q → A q) {k a n : Nat} {fds : List (Nat × Nat)} (hk : k < N) (hl : lay k = (1, a, n, fds)) (hu : uA N lay k (fun x => x == 1 || x == 3) a = true) {i : Nat} {x : Int32} (hi : i < n) (hn : n < 2 ^ 31) (hdg : decode cc pc = .ok (.iastore, 1))
    (kk : ∀ (H1 : Heap) (locs1 : List Loc), va_P (dC, dI) vwCl (wld N lay cA ad (sB M a (upd (gB M a) i x))) H1 → va_S A H0 H1 locs1 → W p l e R s m args below meth c H1 locs1 cells slots Q (F0 m (pc + 1) ls rest)) : W p l e R s m args below meth c H locs cells slots Q (F0 m pc ls (.int x :: .int (nI i) :: .ref (ad k) :: rest)) :=
  w_iast hx hb hK hP hI hS hA hk hl hu (vp_in_nI hi hn) hdg (by rw [nI_clamp (by omega)]; exact kk)
theorem w_lastN (hx : p.tables.exec = Jvm.exec) (hb : c.code = cc) (hK : va_K (dC, dI) vwCl (tys4 cA) s) (hP : va_P (dC, dI) vwCl (wld N lay cA ad M) H) (hI : Inj N ad) (hS : va_S A H0 H locs) (hA : ∀ q, adS N ad q → A q) {k a n : Nat} {fds : List (Nat × Nat)} (hk : k < N) (hl : lay k = (2, a, n, fds)) (hu : uA N lay k (fun x => x == 2) a = true) {i : Nat} {x : Int64} (hi : i < n) (hn : n < 2 ^ 31) (hdg : decode cc pc = .ok (.lastore, 1))
    (kk : ∀ (H1 : Heap) (locs1 : List Loc), va_P (dC, dI) vwCl (wld N lay cA ad (sJ M a (vp_updL (gJ M a) i x))) H1 → va_S A H0 H1 locs1 → W p l e R s m args below meth c H1 locs1 cells slots Q (F0 m (pc + 1) ls rest)) : W p l e R s m args below meth c H locs cells slots Q (F0 m pc ls (.long x :: .int (nI i) :: .ref (ad k) :: rest)) :=
  w_last hx hb hK hP hI hS hA hk hl hu (vp_in_nI hi hn) hdg (by rw [nI_clamp (by omega)]; exact kk)
theorem w_zastN (hx : p.tables.exec = Jvm.exec) (hb : c.code = cc) (hK : va_K (dC, dI) vwCl (tys4 cA) s) (hP : va_P (dC, dI) vwCl (wld N lay cA ad M) H) (hI : Inj N ad) (hS : va_S A H0 H locs) (hA : ∀ q, adS N ad q → A q) {k a n : Nat} {fds : List (Nat × Nat)} (hk : k < N) (hl : lay k = (3, a, n, fds)) (hu : uA N lay k (fun x => x == 1 || x == 3) a = true) {i : Nat} {x : Int32} (hb01 : vp_nar .boolean x = x) (hi : i < n) (hn : n < 2 ^ 31) (hdg : decode cc pc = .ok (.bastore, 1))
    (kk : ∀ (H1 : Heap) (locs1 : List Loc), va_P (dC, dI) vwCl (wld N lay cA ad (sB M a (upd (gB M a) i x))) H1 → va_S A H0 H1 locs1 → W p l e R s m args below meth c H1 locs1 cells slots Q (F0 m (pc + 1) ls rest)) : W p l e R s m args below meth c H locs cells slots Q (F0 m pc ls (.int x :: .int (nI i) :: .ref (ad k) :: rest)) :=
  w_zast hx hb hK hP hI hS hA hk hl hu hb01 (vp_in_nI hi hn) hdg (by rw [nI_clamp (by omega)]; exact kk)
end ROWS2
theorem bnd_or {α : Type} {a : α} {f : α → Int32} (h : ∀ x, f x = 0 ∨ f x = 1) : bnd a f = 0 ∨ bnd a f = 1 := h a
theorem bnd2_or {α β : Type} {a : α × β} {f : α → β → Int32} (h : ∀ x y, f x y = 0 ∨ f x y = 1) : bnd2 a f = 0 ∨ bnd2 a f = 1 := h _ _
theorem ite_or {c : Prop} {i : Decidable c} {x y : Int32} (h1 : x = 0 ∨ x = 1) (h2 : y = 0 ∨ y = 1) : (if c then x else y) = 0 ∨ (if c then x else y) = 1 := by split <;> assumption
theorem bnd_id {T : Int32} (h : T = 0 ∨ T = 1) : bnd T (fun x => x) = 0 ∨ bnd T (fun x => x) = 1 := h
theorem bnd_or1 {α : Type} {a : α} {f : α → Int32 × Mem} (h : ∀ x, (f x).1 = 0 ∨ (f x).1 = 1) : (bnd a f).1 = 0 ∨ (bnd a f).1 = 1 := h a
theorem bnd2_or1 {α β : Type} {a : α × β} {f : α → β → Int32 × Mem} (h : ∀ x y, (f x y).1 = 0 ∨ (f x y).1 = 1) : (bnd2 a f).1 = 0 ∨ (bnd2 a f).1 = 1 := h _ _
theorem ite_or1 {c : Prop} {i : Decidable c} {x y : Int32 × Mem} (h1 : x.1 = 0 ∨ x.1 = 1) (h2 : y.1 = 0 ∨ y.1 = 1) : (if c then x else y).1 = 0 ∨ (if c then x else y).1 = 1 := by split <;> assumption
theorem bnd_id1 {T : Int32} {M : Mem} (h : T = 0 ∨ T = 1) : (bnd T (fun x => (x, M))).1 = 0 ∨ (bnd T (fun x => (x, M))).1 = 1 := h
