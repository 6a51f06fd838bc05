/-! exceptions: what a throwing method needs and leaves -/
def exn : Nat → String
  | 1 => "java/lang/IllegalArgumentException"
  | 2 => "java/lang/IllegalStateException"
  | _ => "java/lang/IndexOutOfBoundsException"
def exNames : List String := ["java/lang/RuntimeException", "java/lang/Exception"]
def NGx : List Cond := NG.filter (fun w => w.onTables)
def KX (A : Nat → Prop) (U : State) : Prop := vx_Zq Bundle.tN "UNASSIGNED_STACK" Bundle.steD A U U.heap ∧ vx_Zq Bundle.tN "SUPPRESSED_SENTINEL" Bundle.listD A U U.heap ∧ ∀ w ∈ NGx, va_Nw w U
theorem KX.same {A : Nat → Prop} {u U : State} (h : KX A u) (hv : u.vm = U.vm) (hh : u.heap = U.heap) : KX A U := by
  have ha : u.vm.Alike U.vm := by rw [hv]; exact Vm.Alike.refl _
  refine ⟨by rw [← hh]; exact vx_Zq.moved ha h.1, by rw [← hh]; exact vx_Zq.moved ha h.2.1, fun w hw => va_Nw.same (List.mem_filter.mp hw).2 hv (h.2.2 w hw)⟩
def ngk (w : Cond) : Bool := match w with
  | .methodLinkNest .. => true
  | .castable .. => true
  | .declares .. => true
  | .arrayOver .. => true
  | _ => false
theorem ngk_all : NG.all ngk = true := by rfl
theorem ng_warm {s U : State} (hW : s.WarmedH U.vm) {w : Cond} (hk : ngk w = true) (ht : w.onTables = true) (h1 : va_Nw w s) : va_Nw w U := by
  cases w <;> first | exact absurd hk Bool.false_ne_true | exact va_Nw.warmM hW h1 | exact va_Nw.warmC hW h1 | exact va_Nw.warmD hW h1 | (simp [Cond.onTables] at ht; done) | (simp [ngk] at hk; done)
theorem NGx_warm {s U : State} (hW : s.WarmedH U.vm) (h : ∀ w ∈ NGx, va_Nw w s) : ∀ w ∈ NGx, va_Nw w U :=
  fun w hw => ng_warm hW (List.all_eq_true.mp ngk_all w (List.mem_filter.mp hw).1) (List.mem_filter.mp hw).2 (h w hw)
theorem KX.at {A : Nat → Prop} {s U : State} {H : Heap} {locs : List Loc} (h : KX A s) (hS : va_S A s.heap H locs) (hU : U.heap = H) (hW : s.WarmedH U.vm) : KX A U := by
  subst hU
  exact ⟨vx_Zq.moved hW.alike (h.1.kept hS.2.1), vx_Zq.moved hW.alike (h.2.1.kept hS.2.1), NGx_warm hW h.2.2⟩
def PXw (N : Nat) (lay : Nat → Dsc) (dC : Nat → ClassId) (dI : Nat → Nat → Nat) (cA : Nat → ClassId) (ad : Nat → Nat) (M : Mem) (U : State) : Prop := PCw N lay dC dI cA ad M U ∧ KX (adS N ad) U
abbrev PX (dC : Nat → ClassId) (dI : Nat → Nat → Nat) (cA : Nat → ClassId) (ad : Nat → Nat) : Mem → State → Prop := PXw 69 layC dC dI cA ad
theorem PXw_blind {N : Nat} {lay : Nat → Dsc} {dC : Nat → ClassId} {dI : Nat → Nat → Nat} {cA : Nat → ClassId} {ad : Nat → Nat} {M : Mem} {av : List Value} : FrameBlind (va_Pc av (PXw N lay dC dI cA ad M)) :=
  fun a U g mk q => ⟨q.1, ⟨q.2.1.1, va_K.moved (u := U) (U := U.calling g mk a) (Vm.Alike.refl U.vm) q.2.1.2⟩, q.2.2.same rfl rfl⟩
def XP (N : Nat) (lay : Nat → Dsc) (dC : Nat → ClassId) (dI : Nat → Nat → Nat) (cA : Nat → ClassId) (ad : Nat → Nat) (P : Nat → Mem → Prop) : String → State → State → Prop := vx_X (fun z : Nat × Mem => z.1 ≠ 0 ∧ P z.1 z.2) (fun E z t => E = exn z.1 ∧ PCw N lay dC dI cA ad z.2 t) (adS N ad)
theorem XP_mk {N : Nat} {lay : Nat → Dsc} {dC : Nat → ClassId} {dI : Nat → Nat → Nat} {cA : Nat → ClassId} {ad : Nat → Nat} {M : Mem} {P : Nat → Mem → Prop} {s t : State} {H : Heap} {locs : List Loc} {n : Nat} (hn : n ≠ 0) (hp : P n M) (hS : va_S (adS N ad) s.heap H locs) (hP : va_P (dC, dI) vwCl (wld N lay cA ad M) H) (hK : va_K (dC, dI) vwCl (tys4 cA) s)
    (ha : s.vm.Alike t.vm) (hz : H.size ≤ t.heap.size) (hk : ∀ q : Nat, q < H.size → t.heap[q]? = H[q]?) : XP N lay dC dI cA ad P (exn n) s t :=
  ⟨(n, M), ⟨hn, hp⟩, ⟨rfl, hP.kept (fun k q hq => hk q.1 (hP k q hq).lt), va_K.moved ha hK⟩, Nat.le_trans hS.1 hz, fun q h1 h2 => (hk q (Nat.lt_of_lt_of_le h1 hS.1)).trans (hS.2.1 q h1 h2)⟩
theorem xMet {l : Launch} {y : MethodName} {b : ByteArray} {n mc ms : Nat} {ret : Option FieldType} {rm : Room} {N : Nat} {lay : Nat → Dsc} {dC : Nat → ClassId} {dI : Nat → Nat → Nat} {cA : Nat → ClassId} {ad : Nat → Nat} {M : Mem} {av : List Value} {Qc : Array Value → State → Outcome → State → Prop} {XC : String → State → State → Prop}
    (hy : plainName y.cls = true) (hn : (lg_sl av).length ≤ n)
    (body : ∀ (p : Program) (e : Env) (s : State) (m : MethodId) (below : List Frame) (meth : Method) (c : Code) (ls : Array Slot), p.tables.exec = Jvm.exec → c.code = b → meth.sig.returnType = ret → c.maxLocals = n → meth.locks = false → s.vm.findClass y.cls = some m.cls → (∀ w ∈ AG, w.before av.toArray s = true) →
      va_K (dC, dI) vwCl (tys4 cA) s → va_P (dC, dI) vwCl (wld N lay cA ad M) s.heap → va_S (adS N ad) s.heap s.heap [] → lv_has ls n (lv_args 0 av) → KX (adS N ad) s → (∀ x ∈ c.exceptionTable.toList, False) →
      W p l e rm s m av.toArray below meth c s.heap [] 0 0 (vx_MQ below Qc XC av.toArray s mc ms (adS N ad)) (F0 m 0 ls [])) :
    vx_Met l y (.code y b n ret :: AG) rm (va_Pc av (PXw N lay dC dI cA ad M)) Qc XC mc ms (adS N ad) := by
  refine vx_ofW (cc := b) (maxL := n) (ret := ret) hy rfl ?_
  intro p e s m args below meth c s₁ B hml htab hv
  obtain ⟨rfl, ⟨hP, hK⟩, hKX⟩ := hv
  have hts := atoms_spec (ws := Cond.code y b n ret :: AG) B.pre
  rw [lg_entry_eq]
  exact body p e s m below meth c _ B.exec B.bytes B.returns hml B.notSynchronized (findClass_of_methodNamed B.named) (fun w h => hts w (List.mem_cons_of_mem _ h)) hK hP va_S.rf (lv_entry av hn) hKX htab
/-! meanings that may throw: (0, answer, memory) or (number of the exception, .., memory) -/
def thn {α β : Type} (x : Nat × α × Mem) (f : Nat → Mem → β) (g : α → Mem → β) : β := if x.1 = 0 then g x.2.1 x.2.2 else f x.1 x.2.2
def thv {β : Type} (x : Nat × Mem) (f : Nat → Mem → β) (g : Mem → β) : β := if x.1 = 0 then g x.2 else f x.1 x.2
theorem thn_ret {α β : Type} {V : β} {x : Nat × α × Mem} {f : Nat → Mem → β} {g : α → Mem → β} {r : α} {u : Mem} (hv : V = thn x f g) (h : (0, r, u) = x) : V = g r u := by rw [hv, ← h]; rfl
theorem thn_thr {α β : Type} {V : β} {x : Nat × α × Mem} {f : Nat → Mem → β} {g : α → Mem → β} {n : Nat} {r : α} {u : Mem} (hv : V = thn x f g) (h : (n, r, u) = x) (hn : n ≠ 0) : V = f n u := by rw [hv, ← h]; exact if_neg hn
theorem thv_ret {β : Type} {V : β} {x : Nat × Mem} {f : Nat → Mem → β} {g : Mem → β} {u : Mem} (hv : V = thv x f g) (h : (0, u) = x) : V = g u := by rw [hv, ← h]; rfl
theorem thv_thr {β : Type} {V : β} {x : Nat × Mem} {f : Nat → Mem → β} {g : Mem → β} {n : Nat} {u : Mem} (hv : V = thv x f g) (h : (n, u) = x) (hn : n ≠ 0) : V = f n u := by rw [hv, ← h]; exact if_neg hn
section XCALLS
variable {p : Program} {l : Launch} {e : Env} {R : Room} {s : State} {m : MethodId} {args : Array Value} {below : List Frame} {meth : Method} {c : Code} {H : Heap} {locs : List Loc} {cells slots : Nat} {Q : State → Prop}
variable {cc bytes : ByteArray} {pc nL maxL nn index mc ms : Nat} {ls : Array Slot} {rest As st0 : List Value} {N : Nat} {lay : Nat → Dsc} {dC : Nat → ClassId} {dI : Nat → Nat → Nat} {cA : Nat → ClassId} {ad : Nat → Nat} {M : Mem} {A : Nat → Prop} {H0 : Heap} {own C : String} {y : MethodName} {ret : Option FieldType} {rm : Room} {b : Addr}
theorem xx_callq {S SX : Type} {H0 : Heap} {A0 A1 : Nat → Prop} {a : Array Value} {free : Addr → Prop} {post : Option Nat → S → Prop} {px : SX → Prop} {B : S → State → Prop} {BX : String → SX → State → Prop} {AX : Nat → Prop} (hr : vx_Run p l e R s m args below meth c H locs cells slots mc ms (F0 m pc ls st0) rest (va_Qq post B A1 a) (vx_X px BX AX) free) (hS : va_S A0 H0 H locs) (hA : ∀ q, q < H.size → A1 q → A0 q) (hf : ∀ q, free q → A0 q) (hAX : ∀ q, q < H.size → AX q → A0 q)
    (kx : ∀ (E : String) (ce : Cell) (q9 : Addr) (u : SX) (t : State) (H1 : Heap) (locs1 : List Loc), t.heap = H1 → s.vm.Alike t.vm → px u → BX E u t → H.size ≤ H1.size → (∀ q : Nat, q < H.size → ¬ AX q → H1[q]? = H[q]?) → va_S A0 H0 H1 locs1 → H1[q9]? = some ce → ce.vm = .none → s.vm.findClass E = some ce.cls → vx_W p l e R s m args below meth c H1 locs1 (cells + mc) (slots + ms) Q (F0 m pc ls rest) q9)
    (kk : ∀ (r : Option Nat) (u : S) (t : State) (H1 : Heap) (locs1 : List Loc), t.heap = H1 → s.vm.Alike t.vm → post r u → B u t → H.size ≤ H1.size → (∀ q : Nat, q < H.size → ¬ A1 q → H1[q]? = H[q]?) → va_S A0 H0 H1 locs1 → W p l e R s m args below meth c H1 locs1 (cells + mc) (slots + ms) Q (F0 m (pc + 3) ls (va_rf r :: rest))) : W p l e R s m args below meth c H locs cells slots Q (F0 m pc ls st0) := by
  intro T hT X
  rcases hr T hT X with ⟨v, st₀, t, T', L, h0, X', hL, e1, e2, ⟨⟨r, u, hv, hp, hb⟩, hF⟩, st⟩ | ⟨q, st₀, t, T', L, E, ce, h0, X', hL, e1, e2, ⟨u, hp, hb, hF⟩, hce, hcv, hcl, st⟩
  · cases hv
    obtain ⟨k1, k2, k3⟩ := vx_keep h0 e1 hS hA hf hL hF
    obtain ⟨t2, a1, b1⟩ := kk r u t T'.heap (locs ++ L) e1.symm (by rw [← e2]; exact X'.warmed.alike) hp hb k1 k2 k3 T' rfl X'
    exact ⟨t2, st t2 a1, b1⟩
  · obtain ⟨k1, k2, k3⟩ := vx_keep h0 e1 hS hAX hf hL hF
    obtain ⟨t2, a1, b1⟩ := kx E ce q u t T'.heap (locs ++ L) e1.symm (by rw [← e2]; exact X'.warmed.alike) hp hb k1 k2 k3 (by rw [e1]; exact hce) hcv hcl T' rfl X'
    exact ⟨t2, st.trans a1, b1⟩
theorem kXi (hx : p.tables.exec = Jvm.exec) (hb : c.code = cc) (hml : c.maxLocals = nL) (hown : s.vm.findClass own = some m.cls) (hts : ∀ w ∈ AG, w.before args s = true) (hK : va_K (dC, dI) vwCl (tys4 cA) s) (hP : va_P (dC, dI) vwCl (wld N lay cA ad M) H) (hS : va_S (adS N ad) s.heap H locs) (hKX : KX (adS N ad) s) {post : Int32 → Mem → Prop} {P : Nat → Mem → Prop}
    (hM : vx_Met l y (Cond.code y bytes maxL ret :: AG) rm (va_Pc (.ref b :: As) (PXw N lay dC dI cA ad M)) (va_Qi post (PCw N lay dC dI cA ad) (adS N ad)) (XP N lay dC dI cA ad P) mc ms (adS N ad))
    (cw : CallW R s args own C index y bytes maxL ret (Cond.code y bytes maxL ret :: AG) rm mc ms nn) (hr : ∃ cell : Cell, H[b]? = some cell ∧ cell.vm.isStatics = false ∧ s.vm.findClass C = some cell.cls)
    (hn : As.length = nn) (hsz : ls.size = nL) (hst : st0 = As.reverse ++ .ref b :: rest) (hrm : (rest.map fun v => v.category).sum ≤ 8) (hdg : decode cc pc = .ok (.invokevirtual index, 3)) (hf : cells + mc ≤ R.cells ∧ slots + ms ≤ R.slots)
    (kx : ∀ (n : Nat) (u : Mem) (H1 : Heap) (locs1 : List Loc) (ce : Cell) (q9 : Addr), n ≠ 0 → P n u → va_P (dC, dI) vwCl (wld N lay cA ad u) H1 → va_S (adS N ad) s.heap H1 locs1 → H.size ≤ H1.size → (∀ q : Nat, q < H.size → ¬ adS N ad q → H1[q]? = H[q]?) → H1[q9]? = some ce → ce.vm = .none → s.vm.findClass (exn n) = some ce.cls → vx_W p l e R s m args below meth c H1 locs1 (cells + mc) (slots + ms) Q (F0 m pc ls rest) q9)
    (kk : ∀ (r : Int32) (u : Mem) (H1 : Heap) (locs1 : List Loc), post r u → va_P (dC, dI) vwCl (wld N lay cA ad u) H1 → va_S (adS N ad) s.heap H1 locs1 → H.size ≤ H1.size → (∀ q : Nat, q < H.size → ¬ adS N ad q → H1[q]? = H[q]?) → W p l e R s m args below meth c H1 locs1 (cells + mc) (slots + ms) Q (F0 m (pc + 3) ls (.int r :: rest))) : W p l e R s m args below meth c H locs cells slots Q (F0 m pc ls st0) := by
  refine vx_calli (vx_runV (As := As) (rest := rest) ⟨hx, hb, hml, hown, hts⟩ hM cw ⟨PXw_blind, hr, fun U hU hW => ⟨rfl, ⟨by rw [hU]; exact hP, va_K.moved hW.alike hK⟩, hKX.at hS hU hW⟩⟩ rfl hn hsz hst (lv_room hrm) hdg hf) hS (fun q _ h => h) (fun q h => h) (fun q _ h => h) (fun E ce q9 z t H1 locs1 ht hvm hw hB hz hk hS1 hce hcv hcl => ?_) (fun r u t H1 locs1 ht hvm hw hB hz hk hS1 => ?_)
  · obtain ⟨n, u⟩ := z
    obtain ⟨rfl, hB⟩ := hB
    subst ht
    exact kx n u t.heap locs1 ce q9 hw.1 hw.2 hB.1 hS1 hz hk hce hcv hcl
  · subst ht
    exact kk r u t.heap locs1 hw hB.1 hS1 hz hk
theorem kXl (hx : p.tables.exec = Jvm.exec) (hb : c.code = cc) (hml : c.maxLocals = nL) (hown : s.vm.findClass own = some m.cls) (hts : ∀ w ∈ AG, w.before args s = true) (hK : va_K (dC, dI) vwCl (tys4 cA) s) (hP : va_P (dC, dI) vwCl (wld N lay cA ad M) H) (hS : va_S (adS N ad) s.heap H locs) (hKX : KX (adS N ad) s) {post : Int64 → Mem → Prop} {P : Nat → Mem → Prop}
    (hM : vx_Met l y (Cond.code y bytes maxL ret :: AG) rm (va_Pc (.ref b :: As) (PXw N lay dC dI cA ad M)) (va_Ql post (PCw N lay dC dI cA ad) (adS N ad)) (XP N lay dC dI cA ad P) mc ms (adS N ad))
    (cw : CallW R s args own C index y bytes maxL ret (Cond.code y bytes maxL ret :: AG) rm mc ms nn) (hr : ∃ cell : Cell, H[b]? = some cell ∧ cell.vm.isStatics = false ∧ s.vm.findClass C = some cell.cls)
    (hn : As.length = nn) (hsz : ls.size = nL) (hst : st0 = As.reverse ++ .ref b :: rest) (hrm : (rest.map fun v => v.category).sum ≤ 8) (hdg : decode cc pc = .ok (.invokevirtual index, 3)) (hf : cells + mc ≤ R.cells ∧ slots + ms ≤ R.slots)
    (kx : ∀ (n : Nat) (u : Mem) (H1 : Heap) (locs1 : List Loc) (ce : Cell) (q9 : Addr), n ≠ 0 → P n u → va_P (dC, dI) vwCl (wld N lay cA ad u) H1 → va_S (adS N ad) s.heap H1 locs1 → H.size ≤ H1.size → (∀ q : Nat, q < H.size → ¬ adS N ad q → H1[q]? = H[q]?) → H1[q9]? = some ce → ce.vm = .none → s.vm.findClass (exn n) = some ce.cls → vx_W p l e R s m args below meth c H1 locs1 (cells + mc) (slots + ms) Q (F0 m pc ls rest) q9)
    (kk : ∀ (r : Int64) (u : Mem) (H1 : Heap) (locs1 : List Loc), post r u → va_P (dC, dI) vwCl (wld N lay cA ad u) H1 → va_S (adS N ad) s.heap H1 locs1 → H.size ≤ H1.size → (∀ q : Nat, q < H.size → ¬ adS N ad q → H1[q]? = H[q]?) → W p l e R s m args below meth c H1 locs1 (cells + mc) (slots + ms) Q (F0 m (pc + 3) ls (.long r :: rest))) : W p l e R s m args below meth c H locs cells slots Q (F0 m pc ls st0) := by
  refine vx_calll (vx_runV (As := As) (rest := rest) ⟨hx, hb, hml, hown, hts⟩ hM cw ⟨PXw_blind, hr, fun U hU hW => ⟨rfl, ⟨by rw [hU]; exact hP, va_K.moved hW.alike hK⟩, hKX.at hS hU hW⟩⟩ rfl hn hsz hst (lv_room hrm) hdg hf) hS (fun q _ h => h) (fun q h => h) (fun q _ h => h) (fun E ce q9 z t H1 locs1 ht hvm hw hB hz hk hS1 hce hcv hcl => ?_) (fun r u t H1 locs1 ht hvm hw hB hz hk hS1 => ?_)
  · obtain ⟨n, u⟩ := z
    obtain ⟨rfl, hB⟩ := hB
    subst ht
    exact kx n u t.heap locs1 ce q9 hw.1 hw.2 hB.1 hS1 hz hk hce hcv hcl
  · subst ht
    exact kk r u t.heap locs1 hw hB.1 hS1 hz hk
theorem kXv (hx : p.tables.exec = Jvm.exec) (hb : c.code = cc) (hml : c.maxLocals = nL) (hown : s.vm.findClass own = some m.cls) (hts : ∀ w ∈ AG, w.before args s = true) (hK : va_K (dC, dI) vwCl (tys4 cA) s) (hP : va_P (dC, dI) vwCl (wld N lay cA ad M) H) (hS : va_S (adS N ad) s.heap H locs) (hKX : KX (adS N ad) s) {post : Mem → Prop} {P : Nat → Mem → Prop}
    (hM : vx_Met l y (Cond.code y bytes maxL ret :: AG) rm (va_Pc (.ref b :: As) (PXw N lay dC dI cA ad M)) (va_Qv post (PCw N lay dC dI cA ad) (adS N ad)) (XP N lay dC dI cA ad P) mc ms (adS N ad))
    (cw : CallW R s args own C index y bytes maxL ret (Cond.code y bytes maxL ret :: AG) rm mc ms nn) (hr : ∃ cell : Cell, H[b]? = some cell ∧ cell.vm.isStatics = false ∧ s.vm.findClass C = some cell.cls)
    (hn : As.length = nn) (hsz : ls.size = nL) (hst : st0 = As.reverse ++ .ref b :: rest) (hrm : (rest.map fun v => v.category).sum ≤ 8) (hdg : decode cc pc = .ok (.invokevirtual index, 3)) (hf : cells + mc ≤ R.cells ∧ slots + ms ≤ R.slots)
    (kx : ∀ (n : Nat) (u : Mem) (H1 : Heap) (locs1 : List Loc) (ce : Cell) (q9 : Addr), n ≠ 0 → P n u → va_P (dC, dI) vwCl (wld N lay cA ad u) H1 → va_S (adS N ad) s.heap H1 locs1 → H.size ≤ H1.size → (∀ q : Nat, q < H.size → ¬ adS N ad q → H1[q]? = H[q]?) → H1[q9]? = some ce → ce.vm = .none → s.vm.findClass (exn n) = some ce.cls → vx_W p l e R s m args below meth c H1 locs1 (cells + mc) (slots + ms) Q (F0 m pc ls rest) q9)
    (kk : ∀ (u : Mem) (H1 : Heap) (locs1 : List Loc), post u → va_P (dC, dI) vwCl (wld N lay cA ad u) H1 → va_S (adS N ad) s.heap H1 locs1 → H.size ≤ H1.size → (∀ q : Nat, q < H.size → ¬ adS N ad q → H1[q]? = H[q]?) → W p l e R s m args below meth c H1 locs1 (cells + mc) (slots + ms) Q (F0 m (pc + 3) ls rest)) : W p l e R s m args below meth c H locs cells slots Q (F0 m pc ls st0) := by
  refine vx_callv (vx_runV (As := As) (rest := rest) ⟨hx, hb, hml, hown, hts⟩ hM cw ⟨PXw_blind, hr, fun U hU hW => ⟨rfl, ⟨by rw [hU]; exact hP, va_K.moved hW.alike hK⟩, hKX.at hS hU hW⟩⟩ rfl hn hsz hst (lv_room hrm) hdg hf) hS (fun q _ h => h) (fun q h => h) (fun q _ h => h) (fun E ce q9 z t H1 locs1 ht hvm hw hB hz hk hS1 hce hcv hcl => ?_) (fun u t H1 locs1 ht hvm hw hB hz hk hS1 => ?_)
  · obtain ⟨n, u⟩ := z
    obtain ⟨rfl, hB⟩ := hB
    subst ht
    exact kx n u t.heap locs1 ce q9 hw.1 hw.2 hB.1 hS1 hz hk hce hcv hcl
  · subst ht
    exact kk u t.heap locs1 hw hB.1 hS1 hz hk
theorem kXq (hx : p.tables.exec = Jvm.exec) (hb : c.code = cc) (hml : c.maxLocals = nL) (hown : s.vm.findClass own = some m.cls) (hts : ∀ w ∈ AG, w.before args s = true) (hK : va_K (dC, dI) vwCl (tys4 cA) s) (hP : va_P (dC, dI) vwCl (wld N lay cA ad M) H) (hS : va_S (adS N ad) s.heap H locs) (hKX : KX (adS N ad) s) {post : Option Nat → Mem → Prop} {P : Nat → Mem → Prop}
    (hM : vx_Met l y (Cond.code y bytes maxL ret :: AG) rm (va_Pc (.ref b :: As) (PXw N lay dC dI cA ad M)) (va_Qq post (PCw N lay dC dI cA ad) (adS N ad)) (XP N lay dC dI cA ad P) mc ms (adS N ad))
    (cw : CallW R s args own C index y bytes maxL ret (Cond.code y bytes maxL ret :: AG) rm mc ms nn) (hr : ∃ cell : Cell, H[b]? = some cell ∧ cell.vm.isStatics = false ∧ s.vm.findClass C = some cell.cls)
    (hn : As.length = nn) (hsz : ls.size = nL) (hst : st0 = As.reverse ++ .ref b :: rest) (hrm : (rest.map fun v => v.category).sum ≤ 8) (hdg : decode cc pc = .ok (.invokevirtual index, 3)) (hf : cells + mc ≤ R.cells ∧ slots + ms ≤ R.slots)
    (kx : ∀ (n : Nat) (u : Mem) (H1 : Heap) (locs1 : List Loc) (ce : Cell) (q9 : Addr), n ≠ 0 → P n u → va_P (dC, dI) vwCl (wld N lay cA ad u) H1 → va_S (adS N ad) s.heap H1 locs1 → H.size ≤ H1.size → (∀ q : Nat, q < H.size → ¬ adS N ad q → H1[q]? = H[q]?) → H1[q9]? = some ce → ce.vm = .none → s.vm.findClass (exn n) = some ce.cls → vx_W p l e R s m args below meth c H1 locs1 (cells + mc) (slots + ms) Q (F0 m pc ls rest) q9)
    (kk : ∀ (r : Option Nat) (u : Mem) (H1 : Heap) (locs1 : List Loc), post r u → va_P (dC, dI) vwCl (wld N lay cA ad u) H1 → va_S (adS N ad) s.heap H1 locs1 → H.size ≤ H1.size → (∀ q : Nat, q < H.size → ¬ adS N ad q → H1[q]? = H[q]?) → W p l e R s m args below meth c H1 locs1 (cells + mc) (slots + ms) Q (F0 m (pc + 3) ls (va_rf r :: rest))) : W p l e R s m args below meth c H locs cells slots Q (F0 m pc ls st0) := by
  refine xx_callq (vx_runV (As := As) (rest := rest) ⟨hx, hb, hml, hown, hts⟩ hM cw ⟨PXw_blind, hr, fun U hU hW => ⟨rfl, ⟨by rw [hU]; exact hP, va_K.moved hW.alike hK⟩, hKX.at hS hU hW⟩⟩ rfl hn hsz hst (lv_room hrm) hdg hf) hS (fun q _ h => h) (fun q h => h) (fun q _ h => h) (fun E ce q9 z t H1 locs1 ht hvm hw hB hz hk hS1 hce hcv hcl => ?_) (fun r u t H1 locs1 ht hvm hw hB hz hk hS1 => ?_)
  · obtain ⟨n, u⟩ := z
    obtain ⟨rfl, hB⟩ := hB
    subst ht
    exact kx n u t.heap locs1 ce q9 hw.1 hw.2 hB.1 hS1 hz hk hce hcv hcl
  · subst ht
    exact kk r u t.heap locs1 hw hB.1 hS1 hz hk
end XCALLS
set_option maxRecDepth 20000 in
theorem tg1 : ∀ w ∈ (vx_at0 RX5 49 "java/lang/IllegalArgumentException" exNames).filter goodWord, w ∈ lw_tbl := by decide +kernel
set_option maxRecDepth 20000 in
theorem tn1 : ∀ w ∈ (vx_at0 RX5 49 "java/lang/IllegalArgumentException" exNames).filter (fun w => !goodWord w), w ∈ NGx := by decide +kernel
theorem to1 : ∀ w ∈ Cond.classLink RX5 47 "java/lang/IllegalArgumentException" :: Cond.initialized "java/lang/IllegalArgumentException" :: (vx_at0 RX5 49 "java/lang/IllegalArgumentException" exNames), vx_ot w = true := by decide +kernel
theorem ta1 {args : Array Value} {s : State} (hts : ∀ w ∈ AG, w.before args s = true) (hN : ∀ w ∈ NGx, va_Nw w s) : ∀ w ∈ (vx_at0 RX5 49 "java/lang/IllegalArgumentException" exNames), w.before args s = true :=
  vx_hat (B := NGx) (fun w h => hts w (List.mem_filter.mpr ⟨tg1 w h, (List.mem_filter.mp h).2⟩)) tn1 (fun w h => va_Nw.use (List.mem_filter.mp h).2 (hN w h))
set_option maxRecDepth 20000 in
theorem tg2 : ∀ w ∈ (vx_at0 RX5 56 "java/lang/IllegalStateException" exNames).filter goodWord, w ∈ lw_tbl := by decide +kernel
set_option maxRecDepth 20000 in
theorem tn2 : ∀ w ∈ (vx_at0 RX5 56 "java/lang/IllegalStateException" exNames).filter (fun w => !goodWord w), w ∈ NGx := by decide +kernel
theorem to2 : ∀ w ∈ Cond.classLink RX5 54 "java/lang/IllegalStateException" :: Cond.initialized "java/lang/IllegalStateException" :: (vx_at0 RX5 56 "java/lang/IllegalStateException" exNames), vx_ot w = true := by decide +kernel
theorem ta2 {args : Array Value} {s : State} (hts : ∀ w ∈ AG, w.before args s = true) (hN : ∀ w ∈ NGx, va_Nw w s) : ∀ w ∈ (vx_at0 RX5 56 "java/lang/IllegalStateException" exNames), w.before args s = true :=
  vx_hat (B := NGx) (fun w h => hts w (List.mem_filter.mpr ⟨tg2 w h, (List.mem_filter.mp h).2⟩)) tn2 (fun w h => va_Nw.use (List.mem_filter.mp h).2 (hN w h))
set_option maxRecDepth 20000 in
theorem tg3 : ∀ w ∈ (vx_at0 RX5 211 "java/lang/IndexOutOfBoundsException" exNames).filter goodWord, w ∈ lw_tbl := by decide +kernel
set_option maxRecDepth 20000 in
theorem tn3 : ∀ w ∈ (vx_at0 RX5 211 "java/lang/IndexOutOfBoundsException" exNames).filter (fun w => !goodWord w), w ∈ NGx := by decide +kernel
theorem to3 : ∀ w ∈ Cond.classLink RX5 209 "java/lang/IndexOutOfBoundsException" :: Cond.initialized "java/lang/IndexOutOfBoundsException" :: (vx_at0 RX5 211 "java/lang/IndexOutOfBoundsException" exNames), vx_ot w = true := by decide +kernel
theorem ta3 {args : Array Value} {s : State} (hts : ∀ w ∈ AG, w.before args s = true) (hN : ∀ w ∈ NGx, va_Nw w s) : ∀ w ∈ (vx_at0 RX5 211 "java/lang/IndexOutOfBoundsException" exNames), w.before args s = true :=
  vx_hat (B := NGx) (fun w h => hts w (List.mem_filter.mpr ⟨tg3 w h, (List.mem_filter.mp h).2⟩)) tn3 (fun w h => va_Nw.use (List.mem_filter.mp h).2 (hN w h))
section RF
variable {p : Program} {l : Launch} {e : Env} {R : Room} {s : State} {m : MethodId} {args : Array Value} {below : List Frame} {meth : Method} {c : Code} {H : Heap} {locs : List Loc} {cells slots : Nat} {Q : State → Prop}
theorem w_rf {pc : Nat} {ls : Array Slot} {rest : List Value} {a : Nat} (k : W p l e R s m args below meth c H locs cells slots Q (F0 m pc ls (.ref a :: rest))) : W p l e R s m args below meth c H locs cells slots Q (F0 m pc ls (va_rf (some a) :: rest)) := k
theorem w_rn {pc : Nat} {ls : Array Slot} {rest : List Value} (k : W p l e R s m args below meth c H locs cells slots Q (F0 m pc ls (.null :: rest))) : W p l e R s m args below meth c H locs cells slots Q (F0 m pc ls (va_rf none :: rest)) := k
end RF
