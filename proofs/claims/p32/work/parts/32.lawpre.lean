/-! the law's walk: what its cases share -/
def LCx (p : Program) (l : Launch) (s : State) (m : MethodId) (c : Code) (b L : Nat) (xs : Nat → Int32) (dC : Nat → ClassId) (dI : Nat → Nat → Nat) (cA : Nat → ClassId) (ad am : Nat → Nat) (qo : Nat) : Prop :=
  p.tables.exec = Jvm.exec ∧ c.code = code ∧ c.maxLocals = 8 ∧ s.vm.findClass RL = some m.cls ∧ (∀ w ∈ AG, w.before #[Value.ref b] s = true) ∧ va_K (dC, dI) vwCl (tys4 cA) s ∧ KX (fun q => s.heap.size ≤ q) s ∧ NCp s ∧ l.stackTraces = false ∧ va_X b L xs s s.heap ∧ b < s.heap.size ∧ L ≤ 2560 ∧ Inj 69 ad ∧ Inj 12 am ∧ (∀ k, k < 69 → s.heap.size ≤ ad k) ∧ (∀ k, k < 12 → s.heap.size ≤ am k) ∧ s.heap.size ≤ qo ∧ (∀ k j, k < 69 → j < 12 → ad k ≠ am j) ∧ (∀ k, k < 69 → qo ≠ ad k) ∧ (∀ j, j < 12 → qo ≠ am j)
def LWx (s : State) (H : Heap) (locs : List Loc) (dC : Nat → ClassId) (dI : Nat → Nat → Nat) (cA : Nat → ClassId) (ad am : Nat → Nat) (qo : Nat) (Mc Mm : Mem) (fo : Nat → Int64) : Prop :=
  va_P (dC, dI) vwCl (wld 69 layC cA ad Mc) H ∧ va_P (dC, dI) vwCl (wld 12 layM cA am Mm) H ∧ va_P (dC, dI) vwCl (outC cA qo fo) H ∧ va_S (fun q => s.heap.size ≤ q) s.heap H locs
section LAWR
variable {p : Program} {l : Launch} {e : Env} {R : Room} {s : State} {m : MethodId} {args : Array Value} {below : List Frame} {meth : Method} {c : Code} {H : Heap} {locs : List Loc} {cells slots : Nat} {Q : State → Prop}
variable {cc : ByteArray} {pc : Nat} {ls : Array Slot} {rest : List Value}
/-- 'x != 0' as a number -/
theorem w_b01 (hx : p.tables.exec = Jvm.exec) (hb : c.code = cc) {x : Int32} (d0 : decode cc pc = .ok (.ifCond .eq 7, 3)) (d1 : decode cc (pc + 3) = .ok (.iconst 1, 1)) (d2 : decode cc (pc + 4) = .ok (.goto 4, 3)) (d3 : decode cc (pc + 7) = .ok (.iconst 0, 1))
    (k : W p l e R s m args below meth c H locs cells slots Q (F0 m (pc + 8) ls (.int (if x = 0 then 0 else 1) :: rest))) : W p l e R s m args below meth c H locs cells slots Q (F0 m pc ls (.int x :: rest)) := by
  refine j0_eq (tgt := pc + 7) hx hb d0 (by omega) (fun h => ?_) (fun h => ?_)
  · rw [if_pos h] at k
    exact lv_iconst (v := 0) hx hb d3 (by decide) k
  · rw [if_neg h] at k
    exact lv_iconst (v := 1) hx hb d1 (by decide) (lv_goto (tgt := pc + 8) hx hb d2 (by omega) k)
end LAWR
/-! the switch's number -/
theorem a31_le (x : Int32) : (x &&& 31).toBitVec.toNat ≤ 31 := by
  have e : (x &&& 31).toBitVec = x.toBitVec &&& 31#32 := rfl
  rw [e, BitVec.toNat_and]
  exact Nat.and_le_right
theorem a31_nI (x : Int32) : ∃ k, k < 32 ∧ x &&& 31 = nI k := by
  have h := a31_le x
  refine ⟨(x &&& 31).toBitVec.toNat, by omega, ?_⟩
  have h2 : (x &&& 31).toInt = ((x &&& 31).toBitVec.toNat : Int) := by
    show (x &&& 31).toBitVec.toInt = _
    rw [BitVec.toInt_eq_toNat_of_lt (by omega)]
  exact Int32.toInt_inj.mp (by rw [h2, nI_toInt (by omega)])
theorem lp_ge {i L : Nat} (hi : i < 100000) (hL : L < 100000) (h : ¬ Int32.ofNat L - 5 < nI i) : i + 5 ≤ L := by
  rw [Int32.lt_iff_toInt_lt, nI_toInt (by omega), Int32.toInt_sub] at h
  have e : (Int32.ofNat L).toInt = (L : Int) := nI_toInt (n := L) (by omega)
  have e5 : (5 : Int32).toInt = 5 := by decide
  rw [e, e5, Int.bmod_eq_of_le (by omega) (by omega)] at h
  omega
theorem D_apart {A : Nat → Prop} {w1 w2 : va_W} (h : va_D A (w1 ++ w2)) {i j : Nat} {x y : Nat × va_E} (hx : w1[i]? = some x) (hy : w2[j]? = some y) : x.1 ≠ y.1 := fun e => by
  have hi := (List.getElem?_eq_some_iff.mp hx).1
  have := h.1 i (w1.length + j) x y (by rw [List.getElem?_append_left hi]; exact hx) (by rw [List.getElem?_append_right (by omega), Nat.add_sub_cancel_left]; exact hy) e
  omega
theorem at_left {w1 w2 : va_W} {i : Nat} {x : Nat × va_E} (hx : w1[i]? = some x) : (w1 ++ w2)[i]? = some x := by rw [List.getElem?_append_left (List.getElem?_eq_some_iff.mp hx).1]; exact hx
theorem at_right {w1 w2 : va_W} {i : Nat} {x : Nat × va_E} (hx : w2[i]? = some x) : (w1 ++ w2)[w1.length + i]? = some x := by rw [List.getElem?_append_right (by omega), Nat.add_sub_cancel_left]; exact hx
section MAKEP
variable {p : Program} {l : Launch} {e : Env} {R : Room} {s : State} {m : MethodId} {args : Array Value} {below : List Frame} {meth : Method} {c : Code} {H : Heap} {locs : List Loc} {cells slots : Nat} {Q : State → Prop}
variable {cc bytes : ByteArray} {pc nL maxL index mc ms : Nat} {ls : Array Slot} {rest : List Value} {dC : Nat → ClassId} {dI : Nat → Nat → Nat} {cA : Nat → ClassId} {A : Nat → Prop} {H0 : Heap} {own : String} {y : MethodName} {rm : Room} {ws : va_W}
/-- 'new C()' by a public constructor: new; dup; invokespecial -/
theorem n_newP {S : Type} {C : String} {T : u_T} {NF ci ik ic : Nat} {fs : List Value} {w1 : Nat → S → va_W} (hx : p.tables.exec = Jvm.exec) (hb : c.code = cc) (hml : c.maxLocals = nL) (hts : ∀ w ∈ AG, w.before args s = true) (hin : ∀ w ∈ u_ws C T NF, w ∈ AG) (ty : Nat → FieldType) (hty : ∀ k, k < NF → parseFieldDescriptor (T k).2.2.1 = some (ty k)) (hown : s.vm.findClass own = some m.cls)
    (hcl : Cond.classLink own ik C ∈ AG) (hinst : Cond.instantiable C NF ∈ AG) (hini : Cond.initialized C ∈ AG) (hK : va_K (dC, dI) vwCl (tys4 cA) s) (hP : va_P (dC, dI) vwCl ws H) (hD : va_D A ws) (hS : va_S A H0 H locs) (hA : ∀ q, H0.size ≤ q → A q) (hNG : NGp s) (hc : vwCl[ci]? = some (C, T, NF)) (hfs : ∀ j, j < NF → defaultValue (ty j) = vp_V fs j)
    (hM : ∀ q sz : Nat, Met l y (Cond.code y bytes maxL none :: AG) rm (NP dC dI cA [(q, .inr (ci, fs))] [.ref q] sz) (NQ dC dI cA (w1 q) [(q, .inr (ci, fs))] sz) mc ms (va_A [(q, .inr (ci, fs))] sz))
    (hcode : Cond.code y bytes maxL none ∈ AG) (hyc : y.cls = C) (hyn : y.name = "<init>") (hlink : Cond.methodLink own ic y ∈ AG) (hinm : Cond.instanceMethod y ∈ AG)
    (hd : y.cls ≠ "java/lang/invoke/MethodHandle" ∧ y.cls ≠ "java/lang/invoke/VarHandle" ∧ (parseMethodDescriptor y.desc).map (fun d => d.parameters.length) = some 0) (hrc : rm.cells = mc) (hrs : rm.slots = ms) (hR : rm.frames + 1 ≤ R.frames ∧ 8 + (maxL + 11) + rm.locals ≤ R.locals)
    (hsz : ls.size = nL) (hrm : ((.ref 0 :: rest).map fun v => v.category).sum ≤ 8) (d0 : decode cc pc = .ok (.new ik, 3)) (d3 : decode cc (pc + 3) = .ok (.dup, 1)) (d4 : decode cc (pc + 4) = .ok (.invokespecial ic, 3)) (hcs : cells + 1 + mc ≤ R.cells) (hss : slots + NF + ms ≤ R.slots)
    (kk : ∀ (q : Nat) (u : S) (H1 : Heap) (locs1 : List Loc), va_P (dC, dI) vwCl (ws ++ w1 q u) H1 → va_D A (ws ++ w1 q u) → va_S A H0 H1 locs1 → W p l e R s m args below meth c H1 locs1 (cells + 1 + mc) (slots + NF + ms) Q (F0 m (pc + 7) ls (.ref q :: rest))) : W p l e R s m args below meth c H locs cells slots Q (F0 m pc ls rest) := by
  subst hyc
  refine va_new (ci := ci) (fs := fs) hx hb hts hin ty hty hown (hts _ hcl) (hts _ hinst) (hts _ hini) hK hP hD hS hA hc hfs (by omega) (by omega) d0 (fun q H1 hP1 hD1 hS1 => ?_)
  refine lv_dup hx hb d3 rfl ?_
  refine va_callv (va_runI (As := []) (rest := .ref q :: rest) (Ts := AG) ⟨hx, hb, hml, hown, hts⟩ (hM q H1.size) ⟨mkB hts hcode hini hlink hd hrc hrs hR, hyn, hts _ hinm⟩ ⟨NP_blind, fun U hU hW => ⟨rfl, by rw [hU], by rw [hU]; exact hP1.right, va_K.moved hW.alike hK, hD1.right.weaken (fun _ _ _ _ => trivial), NGx_warm hW hNG.1, va_AO.moved hW.alike hNG.2⟩⟩ rfl rfl hsz rfl (lv_room hrm) d4 ⟨hcs, hss⟩) hS1 (fun z _ h => freeA hD1 hS1 hA z h) (fun z h => freeA hD1 hS1 hA z h) (fun u t H2 locs2 ht hvm _ hB hz hk hS2 => ?_)
  subst ht
  obtain ⟨hP2, hD2⟩ := joinA hP1 hD1 hk (freeA hD1 hS1 hA) hB.1 hB.2.2
  exact kk q u t.heap locs2 hP2 hD2 hS2
end MAKEP
