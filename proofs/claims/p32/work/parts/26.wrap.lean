/-! which exceptions a meaning can name -/
def inC (L : List Nat) (n : Nat) : Prop := n = 0 ∨ n ∈ L
theorem inC.mono {L L' : List Nat} {n : Nat} (h : inC L n) (hl : ∀ k ∈ L, k ∈ L') : inC L' n := h.elim Or.inl (fun h => Or.inr (hl n h))
theorem bnd_c {α β : Type} {L : List Nat} {a : α} {f : α → Nat × β} (h : ∀ x, inC L (f x).1) : inC L (bnd a f).1 := h a
theorem bnd2_c {α β γ : Type} {L : List Nat} {a : α × β} {f : α → β → Nat × γ} (h : ∀ x y, inC L (f x y).1) : inC L (bnd2 a f).1 := h _ _
theorem ite_c {β : Type} {L : List Nat} {c : Prop} {i : Decidable c} {x y : Nat × β} (h1 : inC L x.1) (h2 : inC L y.1) : inC L (if c then x else y).1 := by split <;> assumption
theorem opt_c {β : Type} {L : List Nat} {o : Option Nat} {a : Nat × β} {f : Nat → Nat × β} (h1 : inC L a.1) (h2 : ∀ k, inC L (f k).1) : inC L (opt o a f).1 := by
  cases o with
  | none => exact h1
  | some k => exact h2 k
theorem thn_c {α β : Type} {L : List Nat} {x : Nat × α × Mem} {d : β} {g : α → Mem → Nat × β × Mem} (h : inC L x.1) (h2 : ∀ r u, inC L (g r u).1) : inC L (thn x (fun n u => (n, d, u)) g).1 := by
  unfold thn
  by_cases h0 : x.1 = 0
  · rw [if_pos h0]; exact h2 _ _
  · rw [if_neg h0]; exact h
theorem thv_c {β : Type} {L : List Nat} {x : Nat × Mem} {d : β} {g : Mem → Nat × β × Mem} (h : inC L x.1) (h2 : ∀ u, inC L (g u).1) : inC L (thv x (fun n u => (n, d, u)) g).1 := by
  unfold thv
  by_cases h0 : x.1 = 0
  · rw [if_pos h0]; exact h2 _
  · rw [if_neg h0]; exact h
/-! the world of a wrapper: the class's cells, and an array of one long -/
def outC (cA : Nat → ClassId) (qo : Nat) (fo : Nat → Int64) : va_W := [(qo, .inl (cA 1, 1, .inr (.inl fo)))]
def adW (ad : Nat → Nat) (qo : Nat) : Nat → Prop := fun q => adS 69 ad q ∨ q = qo
def exPairs : List (String × String) := [("java/lang/IllegalArgumentException", "java/lang/IllegalStateException"), ("java/lang/IllegalArgumentException", "java/lang/IndexOutOfBoundsException"), ("java/lang/IllegalStateException", "java/lang/IllegalArgumentException"), ("java/lang/IllegalStateException", "java/lang/IndexOutOfBoundsException"), ("java/lang/IndexOutOfBoundsException", "java/lang/IllegalArgumentException"), ("java/lang/IndexOutOfBoundsException", "java/lang/IllegalStateException")]
def NCp (U : State) : Prop := ∀ q ∈ exPairs, va_Nc q.1 q.2 U
theorem NCp.moved {u U : State} (hvm : u.vm.Alike U.vm) (h : NCp u) : NCp U := fun q hq => va_Nc.moved hvm (h q hq)
def PWq (dC : Nat → ClassId) (dI : Nat → Nat → Nat) (cA : Nat → ClassId) (ad : Nat → Nat) (qo : Nat) (z : Mem × (Nat → Int64)) (U : State) : Prop := PC dC dI cA ad z.1 U ∧ va_P (dC, dI) vwCl (outC cA qo z.2) U.heap
def PW (dC : Nat → ClassId) (dI : Nat → Nat → Nat) (cA : Nat → ClassId) (ad : Nat → Nat) (qo : Nat) (M : Mem) (fo : Nat → Int64) (U : State) : Prop := PX dC dI cA ad M U ∧ va_P (dC, dI) vwCl (outC cA qo fo) U.heap ∧ NCp U
theorem PW_blind {dC : Nat → ClassId} {dI : Nat → Nat → Nat} {cA : Nat → ClassId} {ad : Nat → Nat} {qo : Nat} {M : Mem} {fo : Nat → Int64} {av : List Value} : FrameBlind (va_Pc av (PW dC dI cA ad qo M fo)) :=
  fun a U g mk q => ⟨q.1, ⟨⟨q.2.1.1.1, va_K.moved (u := U) (U := U.calling g mk a) (Vm.Alike.refl U.vm) q.2.1.1.2⟩, q.2.1.2.same rfl rfl⟩, q.2.2.1, NCp.moved (u := U) (U := U.calling g mk a) (Vm.Alike.refl U.vm) q.2.2.2⟩
/-- what a wrapper answers: 0 and the answer in the array, or the exception's number in the order of its catches -/
def WPn (mp : Nat → Int32) (x : Nat × Int64 × Mem) (fo : Nat → Int64) (r : Int32) (z : Mem × (Nat → Int64)) : Prop := r = (if x.1 = 0 then 0 else mp x.1) ∧ z.1 = x.2.2 ∧ (x.1 = 0 → z.2 0 = x.2.1)
def toJ (x : Nat × Int32 × Mem) : Nat × Int64 × Mem := (x.1, x.2.1.toInt64, x.2.2)
def toV (x : Nat × Mem) : Nat × Int64 × Mem := (x.1, 0, x.2)
theorem va_S.mono {A B : Nat → Prop} {H0 H : Heap} {locs : List Loc} (h : va_S A H0 H locs) (hAB : ∀ q, A q → B q) : va_S B H0 H locs := ⟨h.1, fun q h1 h2 => h.2.1 q h1 (fun z => h2 (hAB q z)), fun l hl => hAB _ (h.2.2 l hl)⟩
theorem wMet {l : Launch} {y : MethodName} {b : ByteArray} {n mc ms : Nat} {ret : Option FieldType} {hh : List (Nat × Nat × Nat × Nat)} {rm : Room} {dC : Nat → ClassId} {dI : Nat → Nat → Nat} {cA : Nat → ClassId} {ad : Nat → Nat} {qo : Nat} {M : Mem} {fo : Nat → Int64} {av : List Value} {Qc : Array Value → State → Outcome → State → Prop}
    (hy : plainName y.cls = true) (hn : (lg_sl av).length ≤ n)
    (body : ∀ (p : Program) (e : Env) (s : State) (m : MethodId) (below : List Frame) (meth : Method) (c : Code) (ls : Array Slot), p.tables.exec = Jvm.exec → c.code = b → meth.sig.returnType = ret → c.maxLocals = n → meth.locks = false → s.vm.findClass y.cls = some m.cls → (∀ w ∈ AG, w.before av.toArray s = true) →
      va_K (dC, dI) vwCl (tys4 cA) s → va_P (dC, dI) vwCl (wld 69 layC cA ad M) s.heap → va_S (adS 69 ad) s.heap s.heap [] → lv_has ls n (lv_args 0 av) → KX (adS 69 ad) s → va_P (dC, dI) vwCl (outC cA qo fo) s.heap → NCp s → c.exceptionTable.toList = tableOf hh →
      W p l e rm s m av.toArray below meth c s.heap [] 0 0 (MQ below Qc av.toArray s mc ms (adW ad qo)) (F0 m 0 ls [])) :
    Met l y (.codeWith y b n ret hh :: AG) rm (va_Pc av (PW dC dI cA ad qo M fo)) Qc mc ms (adW ad qo) := by
  refine va_MetW (cc := b) (maxL := n) (ret := ret) (hh := hh) hy rfl ?_
  intro p e s m args below meth c s₁ B hml hv
  obtain ⟨rfl, ⟨⟨hP, hK⟩, hKX⟩, hPo, hNC⟩ := hv
  have hts := atoms_spec (ws := Cond.codeWith y b n ret hh :: AG) B.pre
  have htab := vx_table (x := y) B (hts _ List.mem_cons_self)
  rw [lg_entry_eq]
  exact body p e s m below meth c _ B.exec B.bytes B.returns hml B.notSynchronized (findClass_of_methodNamed B.named) (fun w h => hts w (List.mem_cons_of_mem _ h)) hK hP va_S.rf (lv_entry av hn) hKX hPo hNC htab
section WRAP
variable {p : Program} {l : Launch} {e : Env} {R : Room} {s : State} {m : MethodId} {args : Array Value} {below : List Frame} {meth : Method} {c : Code} {H : Heap} {locs : List Loc} {cells slots : Nat} {Q : State → Prop}
variable {cc : ByteArray} {pc : Nat} {ls : Array Slot} {rest : List Value} {dC : Nat → ClassId} {dI : Nat → Nat → Nat} {cA : Nat → ClassId} {ad : Nat → Nat} {M : Mem} {A : Nat → Prop} {H0 : Heap} {qo : Nat} {fo : Nat → Int64}
theorem out_kept {H1 : Heap} (hPo : va_P (dC, dI) vwCl (outC cA qo fo) H) (hq : ∀ k, k < 69 → qo ≠ ad k) (hk : ∀ q : Nat, q < H.size → ¬ adS 69 ad q → H1[q]? = H[q]?) : va_P (dC, dI) vwCl (outC cA qo fo) H1 :=
  hPo.kept (fun k q h => by
    have hl := (hPo k q h).lt
    have e : q.1 = qo := by
      match k, h with
      | 0, h => cases h; rfl
      | k + 1, h => simp [outC] at h
    exact hk q.1 hl (fun ⟨j, hj, ej⟩ => hq j hj (e ▸ ej)))
theorem w_out (hx : p.tables.exec = Jvm.exec) (hb : c.code = cc) (hK : va_K (dC, dI) vwCl (tys4 cA) s) (hP : va_P (dC, dI) vwCl (wld 69 layC cA ad M) H) (hPo : va_P (dC, dI) vwCl (outC cA qo fo) H) (hI : Inj 69 ad) (hq : ∀ k, k < 69 → qo ≠ ad k) (hS : va_S A H0 H locs) (hA : ∀ q, adW ad qo q → A q) {v : Int64} (hdg : decode cc pc = .ok (.lastore, 1))
    (kk : ∀ (H1 : Heap) (locs1 : List Loc), va_P (dC, dI) vwCl (wld 69 layC cA ad M) H1 → va_P (dC, dI) vwCl (outC cA qo (vp_updL fo 0 v)) H1 → va_S A H0 H1 locs1 → W p l e R s m args below meth c H1 locs1 cells slots Q (F0 m (pc + 1) ls rest)) : W p l e R s m args below meth c H locs cells slots Q (F0 m pc ls (.long v :: .int 0 :: .ref qo :: rest)) := by
  have hD : va_D A (wld 69 layC cA ad M ++ outC cA qo fo) := va_D.app (wld_D hI (fun q h => hA q (Or.inl h))) ⟨fun i j p q hi hj _ => by
      match i, j, hi, hj with
      | 0, 0, _, _ => rfl
      | 0, j + 1, _, hj => simp [outC] at hj
      | i + 1, _, hi, _ => simp [outC] at hi, fun k q h => by
      match k, h with
      | 0, h => cases h; exact hA _ (Or.inr rfl)
      | k + 1, h => simp [outC] at h⟩ (fun i j x y hx hy hxy => by
      obtain ⟨h1, rfl⟩ := wld_inv hx
      match j, hy with
      | 0, hy => cases hy; exact hq i h1 hxy.symm
      | j + 1, hy => simp [outC] at hy)
  have hlen : (wld 69 layC cA ad M).length = 69 := by simp [wld]
  refine va_last (D := (dC, dI)) hx hb hK (hP.app hPo) hD hS 69 1 (f := fo) (n := 1) (cA := cA 1) (by rw [List.getElem?_append_right (by omega), hlen]; rfl) rfl (vp_in_nI (n := 0) (N := 1) (by decide) (by decide)) hdg (fun H1 locs1 hP1 _ hS1 => ?_)
  have e : (wld 69 layC cA ad M ++ outC cA qo fo).set 69 (qo, .inl (cA 1, 1, .inr (.inl (vp_updL fo (0 : Int32).toNatClampNeg v)))) = wld 69 layC cA ad M ++ outC cA qo (vp_updL fo 0 v) := by
    rw [List.set_append, if_neg (by rw [hlen]; decide), hlen]
    rfl
  rw [e] at hP1
  exact kk H1 locs1 hP1.left hP1.right hS1
end WRAP
def WPv (mp : Nat → Int32) (x : Nat × Mem) (fo : Nat → Int64) (r : Int32) (z : Mem × (Nat → Int64)) : Prop := r = (if x.1 = 0 then 0 else mp x.1) ∧ z.1 = x.2 ∧ z.2 = fo
