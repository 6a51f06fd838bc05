/-! constructors: the world is a list that grows at its end -/
def NGp (U : State) : Prop := (∀ w ∈ NGx, va_Nw w U) ∧ va_AO "Clockhouse$Server" U
def NP (dC : Nat → ClassId) (dI : Nat → Nat → Nat) (cA : Nat → ClassId) (w : va_W) (av : List Value) (sz : Nat) : Array Value → State → Prop :=
  va_Pc av (fun U => U.heap.size = sz ∧ va_P (dC, dI) vwCl w U.heap ∧ va_K (dC, dI) vwCl (tys4 cA) U ∧ va_D (fun _ => True) w ∧ NGp U)
def NQ {S : Type} (dC : Nat → ClassId) (dI : Nat → Nat → Nat) (cA : Nat → ClassId) (w1 : S → va_W) (w : va_W) (sz : Nat) : Array Value → State → Outcome → State → Prop :=
  va_Qv (fun _ : S => True) (fun u t => va_P (dC, dI) vwCl (w1 u) t.heap ∧ va_K (dC, dI) vwCl (tys4 cA) t ∧ va_D (va_A w sz) (w1 u)) (va_A w sz)
theorem va_P.left {D : va_G} {cl : List vw_C} {w1 w2 : va_W} {H : Heap} (h : va_P D cl (w1 ++ w2) H) : va_P D cl w1 H := fun k q hk => h k q (by rw [List.getElem?_append_left (List.getElem?_eq_some_iff.mp hk).1]; exact hk)
theorem va_P.right {D : va_G} {cl : List vw_C} {w1 w2 : va_W} {H : Heap} (h : va_P D cl (w1 ++ w2) H) : va_P D cl w2 H := fun k q hk => h (w1.length + k) q (by rw [List.getElem?_append_right (by omega), Nat.add_sub_cancel_left]; exact hk)
theorem va_D.left {A : Nat → Prop} {w1 w2 : va_W} (h : va_D A (w1 ++ w2)) : va_D A w1 := by
  have e : ∀ (k : Nat) (q : Nat × va_E), w1[k]? = some q → (w1 ++ w2)[k]? = some q := fun k q hk => by rw [List.getElem?_append_left (List.getElem?_eq_some_iff.mp hk).1]; exact hk
  exact ⟨fun i j p q hi hj hpq => h.1 i j p q (e i p hi) (e j q hj) hpq, fun k q hk => h.2 k q (e k q hk)⟩
theorem va_D.right {A : Nat → Prop} {w1 w2 : va_W} (h : va_D A (w1 ++ w2)) : va_D A w2 := by
  have e : ∀ (k : Nat) (q : Nat × va_E), w2[k]? = some q → (w1 ++ w2)[w1.length + k]? = some q := fun k q hk => by rw [List.getElem?_append_right (by omega), Nat.add_sub_cancel_left]; exact hk
  refine ⟨fun i j p q hi hj hpq => ?_, fun k q hk => h.2 _ q (e k q hk)⟩
  have := h.1 _ _ p q (e i p hi) (e j q hj) hpq
  omega
theorem joinA {A0 : Nat → Prop} {D : va_G} {cl : List vw_C} {ws wc w1 : va_W} {H H1 : Heap} (hP : va_P D cl (ws ++ wc) H) (hD : va_D A0 (ws ++ wc)) (hk : ∀ q : Nat, q < H.size → ¬ va_A wc H.size q → H1[q]? = H[q]?) (hF : ∀ q, va_A wc H.size q → A0 q)
    (hP1 : va_P D cl w1 H1) (hD1 : va_D (va_A wc H.size) w1) : va_P D cl (ws ++ w1) H1 ∧ va_D A0 (ws ++ w1) := by
  have apart : ∀ (k : Nat) (q : Nat × va_E), ws[k]? = some q → q.1 < H.size ∧ ¬ va_A wc H.size q.1 := by
    intro k q hq
    have hl := (hP.left k q hq).lt
    refine ⟨hl, fun h => ?_⟩
    rcases h with ⟨k2, e, h⟩ | h
    · have h1 : (ws ++ wc)[k]? = some q := by rw [List.getElem?_append_left (List.getElem?_eq_some_iff.mp hq).1]; exact hq
      have h2 : (ws ++ wc)[ws.length + k2]? = some (q.1, e) := by rw [List.getElem?_append_right (by omega), Nat.add_sub_cancel_left]; exact h
      have h3 := hD.1 _ _ q (q.1, e) h1 h2 rfl
      have h4 := (List.getElem?_eq_some_iff.mp hq).1
      omega
    · omega
  refine ⟨va_P.app (fun k q hq => ((hP.left) k q hq).kept (hk q.1 (apart k q hq).1 (apart k q hq).2)) hP1, va_D.app hD.left (hD1.weaken (fun k q _ h => hF q.1 h)) (fun i j x y hx hy hxy => (apart i x hx).2 (by rw [hxy]; exact hD1.2 j y hy))⟩
theorem freeA {A0 : Nat → Prop} {ws wc : va_W} {H0 H : Heap} {locs : List Loc} (hD : va_D A0 (ws ++ wc)) (hS : va_S A0 H0 H locs) (hA : ∀ q, H0.size ≤ q → A0 q) : ∀ q, va_A wc H.size q → A0 q := by
  intro q h
  rcases h with ⟨k, e, h⟩ | h
  · exact hD.right.2 k (q, e) h
  · exact hA q (Nat.le_trans hS.1 h)
theorem K_uniq {D : va_G} {cl : List vw_C} {cA : Nat → ClassId} {c1 : ClassId} {ty : FieldType} {s : State} {k : Nat} (hK : va_K D cl (tys4 cA ++ [(c1, ty)]) s) (hk : (tys4 cA)[k]? = some (cA k, ty)) : c1 = cA k := by
  have h1 := (hK.2 4 (c1, ty) rfl).2
  have hlt : k < (tys4 cA).length := (List.getElem?_eq_some_iff.mp hk).1
  have h2 := (hK.2 k (cA k, ty) (by rw [List.getElem?_append_left hlt]; exact hk)).2
  cases ty with
  | object C =>
    obtain ⟨_, _, -, -, -, a⟩ := h1
    obtain ⟨_, _, -, -, -, b⟩ := h2
    exact Option.some.inj (a.symm.trans b)
  | _ => exact Option.some.inj ((show s.vm.findClass _ = some c1 from h1).symm.trans h2)
theorem nMet {S : Type} {l : Launch} {y : MethodName} {b : ByteArray} {n mc ms : Nat} {rm : Room} {dC : Nat → ClassId} {dI : Nat → Nat → Nat} {cA : Nat → ClassId} {w : va_W} {sz : Nat} {av : List Value} {w1 : S → va_W}
    (hy : plainName y.cls = true) (hyn : y.name = "<init>") (hn : (lg_sl av).length ≤ n)
    (body : ∀ (p : Program) (e : Env) (s : State) (m : MethodId) (below : List Frame) (meth : Method) (c : Code) (ls : Array Slot) (A : Nat → Prop), p.tables.exec = Jvm.exec → c.code = b → meth.sig.returnType = none → c.maxLocals = n → meth.locks = false → meth.name = "<init>" → s.vm.findClass y.cls = some m.cls → (∀ w ∈ AG, w.before av.toArray s = true) →
      va_K (dC, dI) vwCl (tys4 cA) s → va_P (dC, dI) vwCl w s.heap → va_D A w → va_S A s.heap s.heap [] → (∀ q, s.heap.size ≤ q → A q) → NGp s → lv_has ls n (lv_args 0 av) →
      (∀ (u : S) (t : State) (H : Heap) (locs : List Loc), t.heap = H → s.WarmedH t.vm → va_P (dC, dI) vwCl (w1 u) H → va_D A (w1 u) → va_S A s.heap H locs → NQ dC dI cA w1 w sz av.toArray s (.returned none) t) → (∀ q, A q → va_A w sz q) →
      W p l e rm s m av.toArray below meth c s.heap [] 0 0 (MQ below (NQ dC dI cA w1 w sz) av.toArray s mc ms (va_A w sz)) (F0 m 0 ls [])) :
    Met l y (.code y b n none :: AG) rm (NP dC dI cA w av sz) (NQ dC dI cA w1 w sz) mc ms (va_A w sz) := by
  refine Met.ofW (cc := b) (maxL := n) (ret := none) hy rfl ?_
  intro p e s m args below meth c s₁ B hml hv
  obtain ⟨rfl, hsz, hP, hK, hD0, hNG⟩ := hv
  subst hsz
  have hts := atoms_spec (ws := Cond.code y b n none :: AG) B.pre
  rw [lg_entry_eq]
  refine body p e s m below meth c _ (va_A w s.heap.size) B.exec B.bytes B.returns hml B.notSynchronized ((name_of_methodNamed B.named B.method).1.trans hyn) (findClass_of_methodNamed B.named) (fun w h => hts w (List.mem_cons_of_mem _ h)) hK hP hD0.self va_S.rf (fun q h => Or.inr h) hNG (lv_entry av hn) ?_ (fun q h => h)
  intro u t H locs ht hW hP1 hD1 hS
  exact ⟨⟨u, rfl, trivial, by rw [ht]; exact hP1, va_K.moved hW.alike hK, hD1⟩, hS.F ht⟩
section MAKE
variable {p : Program} {l : Launch} {e : Env} {R : Room} {s : State} {m : MethodId} {args : Array Value} {below : List Frame} {meth : Method} {c : Code} {H : Heap} {locs : List Loc} {cells slots : Nat} {Q : State → Prop}
variable {cc bytes : ByteArray} {pc nL maxL index mc ms : Nat} {ls : Array Slot} {rest : List Value} {dC : Nat → ClassId} {dI : Nat → Nat → Nat} {cA : Nat → ClassId} {A : Nat → Prop} {H0 : Heap} {own : String} {y : MethodName} {rm : Room} {ws : va_W}
theorem NP_blind {w : va_W} {av : List Value} {sz : Nat} : FrameBlind (NP dC dI cA w av sz) :=
  fun a U g mk q => ⟨q.1, q.2.1, q.2.2.1, va_K.moved (u := U) (U := U.calling g mk a) (Vm.Alike.refl U.vm) q.2.2.2.1, q.2.2.2.2.1, fun w hw => va_Nw.same (u := U) (U := U.calling g mk a) (List.mem_filter.mp hw).2 rfl (q.2.2.2.2.2.1 w hw), va_AO.moved (u := U) (U := U.calling g mk a) (Vm.Alike.refl U.vm) q.2.2.2.2.2.2⟩
/-- a new array -/
theorem n_newa (hx : p.tables.exec = Jvm.exec) (hb : c.code = cc) {atype : ArrayType} {ty : FieldType} (harr : (Cond.arrayClass (newarray.typeOf atype)).before args s = true) (hty : newarray.typeOf atype = ty) (hK : va_K (dC, dI) vwCl (tys4 cA) s) (hP : va_P (dC, dI) vwCl ws H) (hD : va_D A ws) (hS : va_S A H0 H locs) (hA : ∀ q, H0.size ≤ q → A q)
    {n : Int32} {N' k : Nat} {a0 : vp_A} (ha : ∀ c : ClassId, vp_cell c a0 = arrV c N' (fun _ => defaultValue ty)) (hn : ¬ n < 0) (hN : n.toNatClampNeg = N') (hbytes : N' * componentBytes ty ≤ 536870912) (hk : (tys4 cA)[k]? = some (cA k, ty)) (hcells : cells + 1 ≤ R.cells) (hslots : slots + N' ≤ R.slots) (hdg : decode cc pc = .ok (.newarray atype, 2))
    (kk : ∀ (q : Nat) (H1 : Heap), va_P (dC, dI) vwCl (ws ++ [(q, .inl (cA k, a0))]) H1 → va_D A (ws ++ [(q, .inl (cA k, a0))]) → va_S A H0 H1 locs → W p l e R s m args below meth c H1 locs (cells + 1) (slots + N') Q (F0 m (pc + 2) ls (.ref q :: rest))) : W p l e R s m args below meth c H locs cells slots Q (F0 m pc ls (.int n :: rest)) := by
  refine va_newa hx hb harr hty hK hP hD hS hA ha hn hN hbytes hcells hslots hdg (fun q c1 H1 hK1 hP1 hD1 hS1 => ?_)
  have e := K_uniq hK1 hk
  subst e
  exact kk q H1 hP1 hD1 hS1
/-- 'new C()' of a nest mate: new; dup; invokespecial -/
theorem n_newN {S : Type} {C host : String} {T : u_T} {NF ci ik ic : Nat} {fs : List Value} {w1 : Nat → S → va_W} (hx : p.tables.exec = Jvm.exec) (hb : c.code = cc) (hml : c.maxLocals = nL) (hts : ∀ w ∈ AG, w.before args s = true) (hin : ∀ w ∈ u_ws C T NF, w ∈ AG) (ty : Nat → FieldType) (hty : ∀ k, k < NF → parseFieldDescriptor (T k).2.2.1 = some (ty k)) (hown : s.vm.findClass own = some m.cls)
    (hcl : Cond.classLink own ik C ∈ AG) (hinst : Cond.instantiable C NF ∈ AG) (hini : Cond.initialized C ∈ AG) (hK : va_K (dC, dI) vwCl (tys4 cA) s) (hP : va_P (dC, dI) vwCl ws H) (hD : va_D A ws) (hS : va_S A H0 H locs) (hA : ∀ q, H0.size ≤ q → A q) (hNG : NGp s) (hc : vwCl[ci]? = some (C, T, NF)) (hfs : ∀ j, j < NF → defaultValue (ty j) = vp_V fs j)
    (hM : ∀ q sz : Nat, Met l y (Cond.code y bytes maxL none :: AG) rm (NP dC dI cA [(q, .inr (ci, fs))] [.ref q] sz) (NQ dC dI cA (w1 q) [(q, .inr (ci, fs))] sz) mc ms (va_A [(q, .inr (ci, fs))] sz))
    (hcode : Cond.code y bytes maxL none ∈ AG) (hyc : y.cls = C) (hyn : y.name = "<init>") (hlink : Cond.methodLinkNest own ic y host ∈ NGx) (hinm : Cond.instanceMethod y ∈ AG)
    (hd : y.cls ≠ "java/lang/invoke/MethodHandle" ∧ y.cls ≠ "java/lang/invoke/VarHandle" ∧ (parseMethodDescriptor y.desc).map (fun d => d.parameters.length) = some 0) (hrc : rm.cells = mc) (hrs : rm.slots = ms) (hR : rm.frames + 1 ≤ R.frames ∧ 8 + (maxL + 11) + rm.locals ≤ R.locals)
    (hsz : ls.size = nL) (hrm : ((.ref 0 :: rest).map fun v => v.category).sum ≤ 8) (d0 : decode cc pc = .ok (.new ik, 3)) (d3 : decode cc (pc + 3) = .ok (.dup, 1)) (d4 : decode cc (pc + 4) = .ok (.invokespecial ic, 3)) (hcs : cells + 1 + mc ≤ R.cells) (hss : slots + NF + ms ≤ R.slots)
    (kk : ∀ (q : Nat) (u : S) (H1 : Heap) (locs1 : List Loc), va_P (dC, dI) vwCl (ws ++ w1 q u) H1 → va_D A (ws ++ w1 q u) → va_S A H0 H1 locs1 → W p l e R s m args below meth c H1 locs1 (cells + 1 + mc) (slots + NF + ms) Q (F0 m (pc + 7) ls (.ref q :: rest))) : W p l e R s m args below meth c H locs cells slots Q (F0 m pc ls rest) := by
  subst hyc
  refine va_new (ci := ci) (fs := fs) hx hb hts hin ty hty hown (hts _ hcl) (hts _ hinst) (hts _ hini) hK hP hD hS hA hc hfs (by omega) (by omega) d0 (fun q H1 hP1 hD1 hS1 => ?_)
  refine lv_dup hx hb d3 rfl ?_
  refine va_callv (va_runIN (As := []) (rest := .ref q :: rest) (Ts := AG) ⟨hx, hb, hml, hown, hts⟩ (hM q H1.size) ⟨va_cnB 0 hts (good_c hcode) rfl hrc hrs (hNG.1 _ hlink) (hts _ hini) hd hR, hyn, hts _ hinm⟩ ⟨NP_blind, fun U hU hW => ⟨rfl, by rw [hU], by rw [hU]; exact hP1.right, va_K.moved hW.alike hK, hD1.right.weaken (fun _ _ _ _ => trivial), NGx_warm hW hNG.1, va_AO.moved hW.alike hNG.2⟩⟩ rfl rfl hsz rfl (lv_room hrm) d4 ⟨hcs, hss⟩) hS1 (fun z _ h => freeA hD1 hS1 hA z h) (fun z h => freeA hD1 hS1 hA z h) (fun u t H2 locs2 ht hvm _ hB hz hk hS2 => ?_)
  subst ht
  obtain ⟨hP2, hD2⟩ := joinA hP1 hD1 hk (freeA hD1 hS1 hA) hB.1 hB.2.2
  exact kk q u t.heap locs2 hP2 hD2 hS2
end MAKE
