/-! what slews and the law share: clients are made -/
theorem D_apart {A : Nat → Prop} {w1 w2 : va_W} (h : va_D A (w1 ++ w2)) {i j : Nat} {x y : Nat × va_E} (hx : w1[i]? = some x) (hy : w2[j]? = some y) : x.1 ≠ y.1 := fun e => by
  have hi := (List.getElem?_eq_some_iff.mp hx).1
  have := h.1 i (w1.length + j) x y (by rw [List.getElem?_append_left hi]; exact hx) (by rw [List.getElem?_append_right (by omega), Nat.add_sub_cancel_left]; exact hy) e
  omega
theorem at_left {w1 w2 : va_W} {i : Nat} {x : Nat × va_E} (hx : w1[i]? = some x) : (w1 ++ w2)[i]? = some x := by rw [List.getElem?_append_left (List.getElem?_eq_some_iff.mp hx).1]; exact hx
theorem at_right {w1 w2 : va_W} {i : Nat} {x : Nat × va_E} (hx : w2[i]? = some x) : (w1 ++ w2)[w1.length + i]? = some x := by rw [List.getElem?_append_right (by omega), Nat.add_sub_cancel_left]; exact hx
section MAKEP
variable {p : Program} {l : Launch} {e : Env} {R : Room} {s : State} {m : MethodId} {args : Array Value} {below : List Frame} {meth : Method} {c : Code} {H : Heap} {locs : List Loc} {cells slots : Nat} {Q : State → Prop}
variable {cc bytes : ByteArray} {pc nL maxL index mc ms : Nat} {ls : Array Slot} {rest : List Value} {dC : Nat → ClassId} {dI : Nat → Nat → Nat} {cA : Nat → ClassId} {A : Nat → Prop} {H0 : Heap} {own : String} {y : MethodName} {rm : Room} {ws : va_W}
/-- 'new C()' by a public constructor: new; dup; invokespecial -/
theorem n_newP {S : Type} {C : String} {T : u_T} {NF ci ik ic : Nat} {fs : List Value} {w1 : Nat → S → va_W} (hx : p.tables.exec = Jvm.exec) (hb : c.code = cc) (hml : c.maxLocals = nL) (hts : ∀ w ∈ AG, w.before args s = true) (hin : ∀ w ∈ u_ws C T NF, w ∈ AG) (ty : Nat → FieldType) (hty : ∀ k, k < NF → parseFieldDescriptor (T k).2.2.1 = some (ty k)) (hown : s.vm.findClass own = some m.cls)
    (hcl : Cond.classLink own ik C ∈ AG) (hinst : Cond.instantiable C NF ∈ AG) (hini : Cond.initialized C ∈ AG) (hK : va_K (dC, dI) vwCl (tys4 cA) s) (hP : va_P (dC, dI) vwCl ws H) (hD : va_D A ws) (hS : va_S A H0 H locs) (hA : ∀ q, H0.size ≤ q → A q) (hNG : NGp s) (hc : vwCl[ci]? = some (C, T, NF)) (hfs : ∀ j, j < NF → defaultValue (ty j) = vp_V fs j)
    (hM : ∀ q sz : Nat, Met l y (Cond.code y bytes maxL none :: AG) rm (NP dC dI cA [(q, .inr (ci, fs))] [.ref q] sz) (NQ dC dI cA (w1 q) [(q, .inr (ci, fs))] sz) mc ms (va_A [(q, .inr (ci, fs))] sz))
    (hcode : Cond.code y bytes maxL none ∈ AG) (hyc : y.cls = C) (hyn : y.name = "<init>") (hlink : Cond.methodLink own ic y ∈ AG) (hinm : Cond.instanceMethod y ∈ AG)
    (hd : y.cls ≠ "java/lang/invoke/MethodHandle" ∧ y.cls ≠ "java/lang/invoke/VarHandle" ∧ (parseMethodDescriptor y.desc).map (fun d => d.parameters.length) = some 0) (hrc : rm.cells = mc) (hrs : rm.slots = ms) (hR : rm.frames + 1 ≤ R.frames ∧ 8 + (maxL + 11) + rm.locals ≤ R.locals)
    (hsz : ls.size = nL) (hrm : ((.ref 0 :: rest).map fun v => v.category).sum ≤ 8) (d0 : decode cc pc = .ok (.new ik, 3)) (d3 : decode cc (pc + 3) = .ok (.dup, 1)) (d4 : decode cc (pc + 4) = .ok (.invokespecial ic, 3)) (hcs : cells + 1 + mc ≤ R.cells) (hss : slots + NF + ms ≤ R.slots)
    (kk : ∀ (q : Nat) (u : S) (H1 : Heap) (locs1 : List Loc), va_P (dC, dI) vwCl (ws ++ w1 q u) H1 → va_D A (ws ++ w1 q u) → va_S A H0 H1 locs1 → W p l e R s m args below meth c H1 locs1 (cells + 1 + mc) (slots + NF + ms) Q (F0 m (pc + 7) ls (.ref q :: rest))) : W p l e R s m args below meth c H locs cells slots Q (F0 m pc ls rest) := by
  subst hyc
  refine va_new (ci := ci) (fs := fs) hx hb hts hin ty hty hown (hts _ hcl) (hts _ hinst) (hts _ hini) hK hP hD hS hA hc hfs (by omega) (by omega) d0 (fun q H1 hP1 hD1 hS1 => ?_)
  refine lv_dup hx hb d3 rfl ?_
  refine va_callv (va_runI (As := []) (rest := .ref q :: rest) (Ts := AG) ⟨hx, hb, hml, hown, hts⟩ (hM q H1.size) ⟨mkB hts hcode hini hlink hd hrc hrs hR, hyn, hts _ hinm⟩ ⟨NP_blind, fun U hU hW => ⟨rfl, by rw [hU], by rw [hU]; exact hP1.right, va_K.moved hW.alike hK, hD1.right.weaken (fun _ _ _ _ => trivial), NGx_warm hW hNG.1, va_AO.moved hW.alike hNG.2⟩⟩ rfl rfl hsz rfl (lv_room hrm) d4 ⟨hcs, hss⟩) hS1 (fun z _ h => freeA hD1 hS1 hA z h) (fun z h => freeA hD1 hS1 hA z h) (fun u t H2 locs2 ht hvm _ hB hz hk hS2 => ?_)
  subst ht
  obtain ⟨hP2, hD2⟩ := joinA hP1 hD1 hk (freeA hD1 hS1 hA) hB.1 hB.2.2
  exact kk q u t.heap locs2 hP2 hD2 hS2
end MAKEP
def PS (dC : Nat → ClassId) (dI : Nat → Nat → Nat) (cA : Nat → ClassId) (U : State) : Prop := va_K (dC, dI) vwCl (tys4 cA) U ∧ KX (fun q => U.heap.size ≤ q) U ∧ NCp U ∧ NGp U
theorem PS_blind {dC : Nat → ClassId} {dI : Nat → Nat → Nat} {cA : Nat → ClassId} {av : List Value} : FrameBlind (va_Pc av (PS dC dI cA)) :=
  fun a U g mk q => ⟨q.1, va_K.moved (u := U) (U := U.calling g mk a) (Vm.Alike.refl U.vm) q.2.1, q.2.2.1.same rfl rfl, NCp.moved (u := U) (U := U.calling g mk a) (Vm.Alike.refl U.vm) q.2.2.2.1, fun w hw => va_Nw.same (u := U) (U := U.calling g mk a) (List.mem_filter.mp hw).2 rfl (q.2.2.2.2.1 w hw), va_AO.moved (u := U) (U := U.calling g mk a) (Vm.Alike.refl U.vm) q.2.2.2.2.2⟩
theorem sMet0 {l : Launch} {y : MethodName} {b : ByteArray} {n mc ms : Nat} {ret : Option FieldType} {rm : Room} {dC : Nat → ClassId} {dI : Nat → Nat → Nat} {cA : Nat → ClassId} {av : List Value} {Qc : Array Value → State → Outcome → State → Prop}
    (hy : plainName y.cls = true) (hn : (lg_sl av).length ≤ n)
    (body : ∀ (p : Program) (e : Env) (s : State) (m : MethodId) (below : List Frame) (meth : Method) (c : Code) (ls : Array Slot), p.tables.exec = Jvm.exec → c.code = b → meth.sig.returnType = ret → c.maxLocals = n → meth.locks = false → s.vm.findClass y.cls = some m.cls → (∀ w ∈ AG, w.before av.toArray s = true) →
      va_K (dC, dI) vwCl (tys4 cA) s → lv_has ls n (lv_args 0 av) → KX (fun q => s.heap.size ≤ q) s → NCp s → NGp s →
      W p l e rm s m av.toArray below meth c s.heap [] 0 0 (MQ below Qc av.toArray s mc ms (fun _ => False)) (F0 m 0 ls [])) :
    Met l y (.code y b n ret :: AG) rm (va_Pc av (PS dC dI cA)) Qc mc ms (fun _ => False) := by
  refine Met.ofW (cc := b) (maxL := n) (ret := ret) hy rfl ?_
  intro p e s m args below meth c s₁ B hml hv
  obtain ⟨rfl, hK, hKX, hNC, hNG⟩ := hv
  have hts := atoms_spec (ws := Cond.code y b n ret :: AG) B.pre
  rw [lg_entry_eq]
  exact body p e s m below meth c _ B.exec B.bytes B.returns hml B.notSynchronized (findClass_of_methodNamed B.named) (fun w h => hts w (List.mem_cons_of_mem _ h)) hK (lv_entry av hn) hKX hNC hNG
section LROW0
variable {p : Program} {l : Launch} {e : Env} {R : Room} {s : State} {m : MethodId} {args : Array Value} {below : List Frame} {meth : Method} {c : Code} {H : Heap} {locs : List Loc} {cells slots : Nat} {Q : State → Prop}
variable {cc bytes : ByteArray} {pc nL maxL nn index mc ms : Nat} {ls : Array Slot} {rest As st0 : List Value} {dC : Nat → ClassId} {dI : Nat → Nat → Nat} {cA : Nat → ClassId} {own : String} {y : MethodName} {ret : Option FieldType} {rm : Room}
theorem kM0 (hx : p.tables.exec = Jvm.exec) (hb : c.code = cc) (hml : c.maxLocals = nL) (hown : s.vm.findClass own = some m.cls) (hts : ∀ w ∈ AG, w.before args s = true) (hK : va_K (dC, dI) vwCl (tys4 cA) s) (hS : va_S (fun q => s.heap.size ≤ q) s.heap H locs) (hKX : KX (fun q => s.heap.size ≤ q) s) (hNC : NCp s) (hNG : NGp s)
    (hM : Met l y (Cond.code y bytes maxL ret :: AG) rm (va_Pc As (PS dC dI cA)) (va_Qi (fun r (_ : Unit) => r = 1) (fun _ _ => True) (fun _ => False)) mc ms (fun _ => False))
    (cw : CallB R s args own index y bytes maxL ret (Cond.code y bytes maxL ret :: AG) rm mc ms nn ∧ (Cond.static y).before args s = true)
    (hn : As.length = nn) (hsz : ls.size = nL) (hst : st0 = As.reverse ++ rest) (hrm : (rest.map fun v => v.category).sum ≤ 8) (hdg : decode cc pc = .ok (.invokestatic index, 3)) (hf : cells + mc ≤ R.cells ∧ slots + ms ≤ R.slots)
    (kk : ∀ (H1 : Heap) (locs1 : List Loc), va_S (fun q => s.heap.size ≤ q) s.heap H1 locs1 → W p l e R s m args below meth c H1 locs1 (cells + mc) (slots + ms) Q (F0 m (pc + 3) ls (.int 1 :: rest))) : W p l e R s m args below meth c H locs cells slots Q (F0 m pc ls st0) := by
  refine va_calli (va_runS (As := As) (rest := rest) ⟨hx, hb, hml, hown, hts⟩ hM cw ⟨PS_blind, fun U hU hW => ⟨rfl, va_K.moved hW.alike hK, hKX.nar hS hU hW (fun q h => Nat.le_trans hS.1 (by rw [← hU]; exact h)), NCp.moved hW.alike hNC, NGx_warm hW hNG.1, va_AO.moved hW.alike hNG.2⟩⟩ rfl hn hsz hst (lv_room hrm) hdg hf) hS (fun q _ h => h.elim) (fun q h => h.elim) (fun r u t H1 locs1 ht hvm hw hB hz hk hS1 => ?_)
  subst hw
  exact kk H1 locs1 hS1
end LROW0
theorem WF0 : WFm M0m := ⟨⟨by decide, by decide⟩, fun j _ => ⟨by show (0 : Int32).toNatClampNeg ≤ 8; decide, by show (0 : Int32) = nI (0 : Int32).toNatClampNeg; decide⟩, fun j _ => Or.inl rfl, fun j _ => Or.inl rfl⟩
theorem CL0 : CL M0m 16 (f_X5_begin M0c 0) := by
  have s0 : sn M0m = 0 := by decide
  refine ⟨⟨?_, fun d hd => Or.inl ⟨rfl, ?_, ?_⟩, fun k hk => absurd hk (by rw [s0]; omega)⟩, ⟨?_, fun k hk => absurd hk (by rw [s0]; omega)⟩, WF0, by decide +kernel⟩
  · refine ⟨?_, ?_, ?_, ?_, ?_, ?_, ?_, ?_, ?_⟩ <;> decide +kernel
  · rw [show gI (f_X5_begin M0c 0) 6 = 0 by decide +kernel]; exact b_0 d
  · rw [show gI (f_X5_begin M0c 0) 7 = 0 by decide +kernel]; exact b_0 d
  · unfold okG dev picI nowI
    rw [show gL M0m 0 = 0 by decide, show gL M0m 1 = 0 by decide, show gI M0m 1 = 0 by decide, show gI M0m 2 = 0 by decide]
    decide
/-! the first state of slews' loop, and small things -/

theorem st_1 {Mm : Mem} {p : Int32} (hp : -1000000000 ≤ p.toInt ∧ p.toInt ≤ 1000000000) : gI (nrm (f_X6_restart Mm p)) 1 = 0 := i_eq ((st_hs (Mm := Mm) hp).1.2.2.2.1.trans (by decide))
theorem hs_z {A : Mem} {n p q d : Int} (h : HS A n p q d) : HS A n (p + 0 * 1000000) q d := by rw [Int.zero_mul, Int.add_zero]; exact h
theorem lp_0s {A B : Mem} {T p d b : Int} (hA : HS A T (p + b * 1000000) 0 d) (hB : HS B T p 0 d) (hT : 0 ≤ T ∧ T ≤ 200000) (hd : -300 ≤ d ∧ d ≤ 300) (hp : -300000000000 ≤ p) : LPs 0 A B b p :=
  ⟨T, 0, d, by rw [Int.sub_zero, Int.zero_mul]; exact hA, hB, Or.inl rfl, ⟨hT.1, by push_cast; omega⟩, hd, hp⟩
theorem lp_0n {A B : Mem} {T p d b : Int} (hA : HS A T p (b * 1000000) d) (hB : HS B T p 0 d) (hT : 0 ≤ T ∧ T ≤ 200000) (hd : -300 ≤ d ∧ d ≤ 300) (hp : -300000000000 ≤ p) : LPs 0 A B b p :=
  ⟨T, b, d, by rw [Int.sub_self, Int.zero_mul, Int.add_zero]; exact hA, hB, Or.inr ⟨rfl, rfl⟩, ⟨hT.1, by push_cast; omega⟩, hd, hp⟩
theorem ob_i {o b : Int32} (ho : 0 ≤ o.toInt ∧ o.toInt ≤ 99999) (hb : 0 ≤ b.toInt ∧ b.toInt ≤ 99999) : (o + b).toInt = o.toInt + b.toInt := i_add (by omega)
theorem ob_z {o b : Int32} (h : o + b = 0) : (o + b).toInt = 0 := by rw [h]; decide
theorem ob_p {o b : Int32} (ho : 0 ≤ o.toInt ∧ o.toInt ≤ 99999) (hb : 0 ≤ b.toInt ∧ b.toInt ≤ 99999) (h : ¬ o + b = 0) : 1 ≤ (o + b).toInt ∧ (o + b).toInt ≤ 200000 := by
  have e := ob_i ho hb
  have : ¬ (o + b).toInt = 0 := fun q => h (i_eq (q.trans (by decide)))
  omega
theorem P_lo {T s d : Int} (hT : 0 ≤ T ∧ T ≤ 200000) (hs : -200000 ≤ s) (hd : -300 ≤ d ∧ d ≤ 300) : -300000000000 ≤ s * 1000000 + T * (1000000 + d) := by
  have := Int.mul_nonneg hT.1 (show 0 ≤ 1000000 + d by omega)
  omega
