/-! the law's short methods: a call of the client, its exceptions as numbers -/
def exL : Nat → Int64
  | 1 => -9999002
  | 2 => -9999003
  | _ => -9999001
def exI : Nat → Int32
  | 1 => -9999002
  | 2 => -9999003
  | _ => -9999001
def wL (x : Nat × Int64 × Mem) : Int64 × Mem := (if x.1 = 0 then x.2.1 else exL x.1, x.2.2)
def wI (x : Nat × Int32 × Mem) : Int32 × Mem := (if x.1 = 0 then x.2.1 else exI x.1, x.2.2)
def wV (x : Nat × Mem) : Int32 × Mem := (if x.1 = 0 then 0 else exI x.1, x.2)
theorem wL_thr {x : Nat × Int64 × Mem} {n : Nat} {u : Mem} {v : Int64} (h : (n, 0, u) = x) (hn : n ≠ 0) (hv : exL n = v) : (v, u) = wL x := by
  rw [← h, wL, if_neg hn, hv]
theorem wL_ret {x : Nat × Int64 × Mem} {r : Int64} {u : Mem} (h : (0, r, u) = x) : (r, u) = wL x := by rw [← h, wL, if_pos rfl]
theorem wI_thr {x : Nat × Int32 × Mem} {n : Nat} {u : Mem} {v : Int32} (h : (n, 0, u) = x) (hn : n ≠ 0) (hv : exI n = v) : (v, u) = wI x := by
  rw [← h, wI, if_neg hn, hv]
theorem wI_ret {x : Nat × Int32 × Mem} {r : Int32} {u : Mem} (h : (0, r, u) = x) : (r, u) = wI x := by rw [← h, wI, if_pos rfl]
theorem wV_thr {x : Nat × Mem} {n : Nat} {u : Mem} {v : Int32} (h : (n, u) = x) (hn : n ≠ 0) (hv : exI n = v) : (v, u) = wV x := by
  rw [← h, wV, if_neg hn, hv]
theorem wV_ret {x : Nat × Mem} {u : Mem} (h : (0, u) = x) : (0, u) = wV x := by rw [← h, wV, if_pos rfl]
def PWz (dC : Nat → ClassId) (dI : Nat → Nat → Nat) (cA : Nat → ClassId) (ad : Nat → Nat) (M : Mem) (U : State) : Prop := PX dC dI cA ad M U ∧ NCp U
theorem PWz_blind {dC : Nat → ClassId} {dI : Nat → Nat → Nat} {cA : Nat → ClassId} {ad : Nat → Nat} {M : Mem} {av : List Value} : FrameBlind (va_Pc av (PWz dC dI cA ad M)) :=
  fun a U g mk q => ⟨q.1, ⟨⟨q.2.1.1.1, va_K.moved (u := U) (U := U.calling g mk a) (Vm.Alike.refl U.vm) q.2.1.1.2⟩, q.2.1.2.same rfl rfl⟩, NCp.moved (u := U) (U := U.calling g mk a) (Vm.Alike.refl U.vm) q.2.2⟩
theorem zMet {l : Launch} {y : MethodName} {b : ByteArray} {n mc ms : Nat} {ret : Option FieldType} {hh : List (Nat × Nat × Nat × Nat)} {rm : Room} {dC : Nat → ClassId} {dI : Nat → Nat → Nat} {cA : Nat → ClassId} {ad : Nat → Nat} {M : Mem} {av : List Value} {Qc : Array Value → State → Outcome → State → Prop}
    (hy : plainName y.cls = true) (hn : (lg_sl av).length ≤ n)
    (body : ∀ (p : Program) (e : Env) (s : State) (m : MethodId) (below : List Frame) (meth : Method) (c : Code) (ls : Array Slot), p.tables.exec = Jvm.exec → c.code = b → meth.sig.returnType = ret → c.maxLocals = n → meth.locks = false → s.vm.findClass y.cls = some m.cls → (∀ w ∈ AG, w.before av.toArray s = true) →
      va_K (dC, dI) vwCl (tys4 cA) s → va_P (dC, dI) vwCl (wld 69 layC cA ad M) s.heap → va_S (adS 69 ad) s.heap s.heap [] → lv_has ls n (lv_args 0 av) → KX (adS 69 ad) s → NCp s → c.exceptionTable.toList = tableOf hh →
      W p l e rm s m av.toArray below meth c s.heap [] 0 0 (MQ below Qc av.toArray s mc ms (adS 69 ad)) (F0 m 0 ls [])) :
    Met l y (.codeWith y b n ret hh :: AG) rm (va_Pc av (PWz dC dI cA ad M)) Qc mc ms (adS 69 ad) := by
  refine va_MetW (cc := b) (maxL := n) (ret := ret) (hh := hh) hy rfl ?_
  intro p e s m args below meth c s₁ B hml hv
  obtain ⟨rfl, ⟨⟨hP, hK⟩, hKX⟩, hNC⟩ := hv
  have hts := atoms_spec (ws := Cond.codeWith y b n ret hh :: AG) B.pre
  have htab := vx_table (x := y) B (hts _ List.mem_cons_self)
  rw [lg_entry_eq]
  exact body p e s m below meth c _ B.exec B.bytes B.returns hml B.notSynchronized (findClass_of_methodNamed B.named) (fun w h => hts w (List.mem_cons_of_mem _ h)) hK hP va_S.rf (lv_entry av hn) hKX hNC htab
