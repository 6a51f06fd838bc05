/-! memory of numbers, worlds by a layout, and their rows -/
abbrev Mem : Type := (Nat → Int32) × (Nat → Int64) × (Nat → Nat → Int32) × (Nat → Nat → Int64)
abbrev Dsc : Type := Nat × Nat × Nat × List (Nat × Nat)
def gI (M : Mem) (i : Nat) : Int32 := M.1 i
def gL (M : Mem) (i : Nat) : Int64 := M.2.1 i
def gB (M : Mem) (a : Nat) : Nat → Int32 := M.2.2.1 a
def gJ (M : Mem) (a : Nat) : Nat → Int64 := M.2.2.2 a
def sI (M : Mem) (i : Nat) (v : Int32) : Mem := (fun j => if j = i then v else M.1 j, M.2)
def sL (M : Mem) (i : Nat) (v : Int64) : Mem := (M.1, fun j => if j = i then v else M.2.1 j, M.2.2)
def sB (M : Mem) (a : Nat) (f : Nat → Int32) : Mem := (M.1, M.2.1, fun b => if b = a then f else M.2.2.1 b, M.2.2.2)
def sJ (M : Mem) (a : Nat) (f : Nat → Int64) : Mem := (M.1, M.2.1, M.2.2.1, fun b => if b = a then f else M.2.2.2 b)
def fvl (ad : Nat → Nat) (M : Mem) (d : Nat × Nat) : Value := match d.1 with
  | 0 => .ref (ad d.2)
  | 1 => .int (gI M d.2)
  | _ => .long (gL M d.2)
def cel (cA : Nat → ClassId) (ad : Nat → Nat) (M : Mem) (q : Dsc) : va_E := match q.1 with
  | 0 => .inr (q.2.1, q.2.2.2.map (fvl ad M))
  | 1 => .inl (cA 0, q.2.2.1, .inl (gB M q.2.1))
  | 2 => .inl (cA 1, q.2.2.1, .inr (.inl (gJ M q.2.1)))
  | 3 => .inl (cA 2, q.2.2.1, .inl (gB M q.2.1))
  | _ => .inl (cA 3, q.2.2.1, .inr (.inr (.inr (.inr (fun j => some (ad (q.2.1 + j)))))))
def wld (N : Nat) (lay : Nat → Dsc) (cA : Nat → ClassId) (ad : Nat → Nat) (M : Mem) : va_W := (List.range N).map fun k => (ad k, cel cA ad M (lay k))
theorem wld_at {N : Nat} {lay : Nat → Dsc} {cA : Nat → ClassId} {ad : Nat → Nat} {M : Mem} {k : Nat} (hk : k < N) : (wld N lay cA ad M)[k]? = some (ad k, cel cA ad M (lay k)) := by
  simp [wld, hk]
theorem wld_inv {N : Nat} {lay : Nat → Dsc} {cA : Nat → ClassId} {ad : Nat → Nat} {M : Mem} {k : Nat} {q : Nat × va_E} (h : (wld N lay cA ad M)[k]? = some q) : k < N ∧ q = (ad k, cel cA ad M (lay k)) := by
  by_cases hk : k < N
  · rw [wld_at hk] at h
    exact ⟨hk, (Option.some.inj h).symm⟩
  · rw [List.getElem?_eq_none (by simp [wld]; omega)] at h
    cases h
theorem wld_set {N : Nat} {lay : Nat → Dsc} {cA : Nat → ClassId} {ad : Nat → Nat} {M M' : Mem} {k : Nat} {e : va_E} (he : cel cA ad M' (lay k) = e) (ho : ∀ j, j < N → j ≠ k → cel cA ad M' (lay j) = cel cA ad M (lay j)) : (wld N lay cA ad M).set k (ad k, e) = wld N lay cA ad M' := by
  apply List.ext_getElem?
  intro j
  by_cases hj : j < N
  · by_cases hjk : j = k
    · subst hjk
      rw [wld_at hj, List.getElem?_set_self (by simp [wld]; exact hj), he]
    · rw [List.getElem?_set_ne (Ne.symm hjk), wld_at hj, wld_at hj, ho j hj hjk]
  · rw [List.getElem?_eq_none (by simp [wld]; omega), List.getElem?_eq_none (by simp [wld]; omega)]
def adS (N : Nat) (ad : Nat → Nat) : Nat → Prop := fun q => ∃ k, k < N ∧ q = ad k
def Inj (N : Nat) (ad : Nat → Nat) : Prop := ∀ i j, i < N → j < N → ad i = ad j → i = j
theorem wld_D {N : Nat} {lay : Nat → Dsc} {cA : Nat → ClassId} {ad : Nat → Nat} {M : Mem} {A : Nat → Prop} (hI : Inj N ad) (hA : ∀ q, adS N ad q → A q) : va_D A (wld N lay cA ad M) := by
  refine ⟨fun i j p q hi hj hpq => ?_, fun k q hk => ?_⟩
  · obtain ⟨h1, rfl⟩ := wld_inv hi
    obtain ⟨h2, rfl⟩ := wld_inv hj
    exact hI i j h1 h2 hpq
  · obtain ⟨h1, rfl⟩ := wld_inv hk
    exact hA _ ⟨k, h1, rfl⟩
/-- a field's number stands in one place only; an array's number too -/
def uF (N : Nat) (lay : Nat → Dsc) (k f : Nat) (d : Nat × Nat) : Bool := (List.range N).all fun k' => (List.range (lay k').2.2.2.length).all fun f' => decide ((lay k').2.2.2[f']? = some d → k' = k ∧ f' = f)
theorem uF_spec {N : Nat} {lay : Nat → Dsc} {k f : Nat} {d : Nat × Nat} (h : uF N lay k f d = true) {k' f' : Nat} (hk : k' < N) (hf : (lay k').2.2.2[f']? = some d) : k' = k ∧ f' = f := by
  have h1 := List.all_eq_true.mp h k' (List.mem_range.mpr hk)
  have h2 := List.all_eq_true.mp h1 f' (List.mem_range.mpr (List.getElem?_eq_some_iff.mp hf).1)
  exact of_decide_eq_true h2 hf
def uA (N : Nat) (lay : Nat → Dsc) (k : Nat) (kd : Nat → Bool) (a : Nat) : Bool := (List.range N).all fun k' => decide (kd (lay k').1 = true → (lay k').2.1 = a → k' = k)
theorem uA_spec {N : Nat} {lay : Nat → Dsc} {k a : Nat} {kd : Nat → Bool} (h : uA N lay k kd a = true) {k' : Nat} (hk : k' < N) (h1 : kd (lay k').1 = true) (h2 : (lay k').2.1 = a) : k' = k :=
  of_decide_eq_true (List.all_eq_true.mp h k' (List.mem_range.mpr hk)) h1 h2
theorem fvl_sI {ad : Nat → Nat} {M : Mem} {i : Nat} {v : Int32} {d : Nat × Nat} (h : d ≠ (1, i)) : fvl ad (sI M i v) d = fvl ad M d := by
  obtain ⟨a, b⟩ := d
  match a with
  | 0 => rfl
  | 1 =>
    have hb : b ≠ i := fun e => h (by rw [e])
    simp [fvl, gI, sI, hb]
  | n + 2 => simp [fvl, gL, sI]
theorem fvl_sL {ad : Nat → Nat} {M : Mem} {i : Nat} {v : Int64} {d : Nat × Nat} (h : d.1 < 2 ∨ d.2 ≠ i) : fvl ad (sL M i v) d = fvl ad M d := by
  obtain ⟨a, b⟩ := d
  match a with
  | 0 => rfl
  | 1 => rfl
  | n + 2 =>
    have hb : b ≠ i := h.elim (fun h => absurd h (by show ¬ n + 2 < 2; omega)) id
    simp [fvl, gL, sL, hb]
theorem cel_obj {cA : Nat → ClassId} {ad : Nat → Nat} {M : Mem} {q : Dsc} {ci : Nat} {n : Nat} {fds : List (Nat × Nat)} (h : q = (0, ci, n, fds)) : cel cA ad M q = .inr (ci, fds.map (fvl ad M)) := by subst h; rfl
/-- layouts say 2 for a long field, nothing above -/
def lOk (N : Nat) (lay : Nat → Dsc) : Bool := (List.range N).all fun k => (lay k).2.2.2.all (fun d => decide (d.1 ≤ 2)) && decide ((lay k).1 ≠ 0 → (lay k).2.2.2 = [])
theorem set_sI {N : Nat} {lay : Nat → Dsc} {cA : Nat → ClassId} {ad : Nat → Nat} {M : Mem} {k f i ci n : Nat} {fds : List (Nat × Nat)} {v : Int32} (hk : k < N) (hl : lay k = (0, ci, n, fds)) (hf : fds[f]? = some (1, i)) (hu : uF N lay k f (1, i) = true) :
    (wld N lay cA ad M).set k (ad k, .inr (ci, (fds.map (fvl ad M)).set f (.int v))) = wld N lay cA ad (sI M i v) := by
  refine wld_set ?_ ?_
  · rw [cel_obj hl]
    congr 2
    apply List.ext_getElem?
    intro j
    rw [List.getElem?_map]
    by_cases hj : j = f
    · subst hj
      rw [hf, List.getElem?_set_self (by rw [List.length_map]; exact (List.getElem?_eq_some_iff.mp hf).1)]
      simp [fvl, gI, sI]
    · rw [List.getElem?_set_ne (Ne.symm hj), List.getElem?_map]
      cases hd : fds[j]? with
      | none => rfl
      | some d =>
        have : d ≠ (1, i) := fun e => hj (uF_spec hu hk (by rw [hl]; show fds[j]? = _; rw [hd, e])).2
        simp only [Option.map_some, fvl_sI this]
  · intro j hj hjk
    have hd : ∀ d ∈ (lay j).2.2.2, d ≠ (1, i) := by
      intro d hd e
      obtain ⟨f', hf'⟩ := List.getElem?_of_mem hd
      exact hjk (uF_spec hu hj (by rw [hf', e])).1
    generalize lay j = q at hd
    obtain ⟨a, b, c, fs⟩ := q
    match a with
    | 0 =>
      show Sum.inr _ = Sum.inr _
      congr 2
      exact List.map_congr_left fun d h => fvl_sI (hd d h)
    | 1 => rfl
    | 2 => rfl
    | 3 => rfl
    | n + 4 => rfl
theorem set_sL {N : Nat} {lay : Nat → Dsc} {cA : Nat → ClassId} {ad : Nat → Nat} {M : Mem} {k f i ci n : Nat} {fds : List (Nat × Nat)} {v : Int64} (hk : k < N) (hl : lay k = (0, ci, n, fds)) (hf : fds[f]? = some (2, i)) (hu : uF N lay k f (2, i) = true) (hok : lOk N lay = true) :
    (wld N lay cA ad M).set k (ad k, .inr (ci, (fds.map (fvl ad M)).set f (.long v))) = wld N lay cA ad (sL M i v) := by
  have hle : ∀ j, j < N → ∀ d ∈ (lay j).2.2.2, d.1 ≤ 2 := by
    intro j hj d hd
    have h1 := List.all_eq_true.mp hok j (List.mem_range.mpr hj)
    simp only [Bool.and_eq_true] at h1
    exact of_decide_eq_true (List.all_eq_true.mp h1.1 d hd)
  have key : ∀ d : Nat × Nat, d.1 ≤ 2 → d ≠ (2, i) → (d.1 < 2 ∨ d.2 ≠ i) := by
    intro d h1 h2
    obtain ⟨a, b⟩ := d
    by_cases ha : a < 2
    · exact Or.inl ha
    · right
      intro e
      exact h2 (by simp only at h1 e; rw [e, show a = 2 by omega])
  refine wld_set ?_ ?_
  · rw [cel_obj hl]
    congr 2
    apply List.ext_getElem?
    intro j
    rw [List.getElem?_map]
    by_cases hj : j = f
    · subst hj
      rw [hf, List.getElem?_set_self (by rw [List.length_map]; exact (List.getElem?_eq_some_iff.mp hf).1)]
      simp [fvl, gL, sL]
    · rw [List.getElem?_set_ne (Ne.symm hj), List.getElem?_map]
      cases hd : fds[j]? with
      | none => rfl
      | some d =>
        have h2 : d ≠ (2, i) := fun e => hj (uF_spec hu hk (by rw [hl]; show fds[j]? = _; rw [hd, e])).2
        have h1 : d.1 ≤ 2 := hle k hk d (by rw [hl]; exact List.mem_of_getElem? hd)
        simp only [Option.map_some, fvl_sL (key d h1 h2)]
  · intro j hj hjk
    have hd : ∀ d ∈ (lay j).2.2.2, (d.1 < 2 ∨ d.2 ≠ i) := by
      intro d hd
      refine key d (hle j hj d hd) (fun e => ?_)
      obtain ⟨f', hf'⟩ := List.getElem?_of_mem hd
      exact hjk (uF_spec hu hj (by rw [hf', e])).1
    generalize lay j = q at hd
    obtain ⟨a, b, c, fs⟩ := q
    match a with
    | 0 =>
      show Sum.inr _ = Sum.inr _
      congr 2
      exact List.map_congr_left fun d h => fvl_sL (hd d h)
    | 1 => rfl
    | 2 => rfl
    | 3 => rfl
    | n + 4 => rfl
theorem set_sJ {N : Nat} {lay : Nat → Dsc} {cA : Nat → ClassId} {ad : Nat → Nat} {M : Mem} {k a n : Nat} {fds : List (Nat × Nat)} {g : Nat → Int64} (hl : lay k = (2, a, n, fds)) (hu : uA N lay k (fun x => x == 2) a = true) :
    (wld N lay cA ad M).set k (ad k, .inl (cA 1, n, .inr (.inl g))) = wld N lay cA ad (sJ M a g) := by
  refine wld_set ?_ ?_
  · rw [hl]
    show Sum.inl (cA 1, n, Sum.inr (Sum.inl (gJ (sJ M a g) a))) = _
    simp [gJ, sJ]
  · intro j hj hjk
    have hd := uA_spec (k' := j) hu hj
    generalize lay j = q at hd
    obtain ⟨x, b, c, fs⟩ := q
    match x with
    | 0 =>
      show Sum.inr _ = Sum.inr _
      congr 2
    | 1 => rfl
    | 2 =>
      have hb : b ≠ a := fun e => hjk (hd rfl e)
      show Sum.inl (cA 1, c, Sum.inr (Sum.inl (gJ (sJ M a g) b))) = Sum.inl (cA 1, c, Sum.inr (Sum.inl (gJ M b)))
      simp [gJ, sJ, hb]
    | 3 => rfl
    | n + 4 => rfl
theorem set_sB {N : Nat} {lay : Nat → Dsc} {cA : Nat → ClassId} {ad : Nat → Nat} {M : Mem} {k a n kd : Nat} {fds : List (Nat × Nat)} {g : Nat → Int32} (hl : lay k = (kd, a, n, fds)) (hkd : kd = 1 ∨ kd = 3) (hu : uA N lay k (fun x => x == 1 || x == 3) a = true) :
    (wld N lay cA ad M).set k (ad k, .inl (cA (if kd = 1 then 0 else 2), n, .inl g)) = wld N lay cA ad (sB M a g) := by
  refine wld_set ?_ ?_
  · rw [hl]
    rcases hkd with rfl | rfl
    · show Sum.inl (cA 0, n, Sum.inl (gB (sB M a g) a)) = _
      simp [gB, sB]
    · show Sum.inl (cA 2, n, Sum.inl (gB (sB M a g) a)) = _
      simp [gB, sB]
  · intro j hj hjk
    have hd := uA_spec (k' := j) hu hj
    generalize lay j = q at hd
    obtain ⟨x, b, c, fs⟩ := q
    match x with
    | 0 =>
      show Sum.inr _ = Sum.inr _
      congr 2
    | 1 =>
      have hb : b ≠ a := fun e => hjk (hd rfl e)
      show Sum.inl (cA 0, c, Sum.inl (gB (sB M a g) b)) = Sum.inl (cA 0, c, Sum.inl (gB M b))
      simp [gB, sB, hb]
    | 2 => rfl
    | 3 =>
      have hb : b ≠ a := fun e => hjk (hd rfl e)
      show Sum.inl (cA 2, c, Sum.inl (gB (sB M a g) b)) = Sum.inl (cA 2, c, Sum.inl (gB M b))
      simp [gB, sB, hb]
    | n + 4 => rfl
/-! the four array classes -/
def tys4 (cA : Nat → ClassId) : List (ClassId × FieldType) := [(cA 0, .int), (cA 1, .long), (cA 2, .boolean), (cA 3, .object "Clockhouse$Server")]
def PCw (N : Nat) (lay : Nat → Dsc) (dC : Nat → ClassId) (dI : Nat → Nat → Nat) (cA : Nat → ClassId) (ad : Nat → Nat) (M : Mem) (U : State) : Prop := va_P (dC, dI) vwCl (wld N lay cA ad M) U.heap ∧ va_K (dC, dI) vwCl (tys4 cA) U
theorem PCw_blind {N : Nat} {lay : Nat → Dsc} {dC : Nat → ClassId} {dI : Nat → Nat → Nat} {cA : Nat → ClassId} {ad : Nat → Nat} {M : Mem} {av : List Value} : FrameBlind (va_Pc av (PCw N lay dC dI cA ad M)) :=
  fun a U g mk q => ⟨q.1, q.2.1, va_K.moved (u := U) (U := U.calling g mk a) (Vm.Alike.refl U.vm) q.2.2⟩
/-! the names that every walk has -/
theorem cMet {l : Launch} {y : MethodName} {b : ByteArray} {n : Nat} {ret : Option FieldType} {rm : Room} {N : Nat} {lay : Nat → Dsc} {dC : Nat → ClassId} {dI : Nat → Nat → Nat} {cA : Nat → ClassId} {ad : Nat → Nat} {M : Mem} {av : List Value} {Qc : Array Value → State → Outcome → State → Prop}
    (hy : plainName y.cls = true) (hn : (lg_sl av).length ≤ n)
    (body : ∀ (p : Program) (e : Env) (s : State) (m : MethodId) (below : List Frame) (meth : Method) (c : Code) (ls : Array Slot), p.tables.exec = Jvm.exec → c.code = b → meth.sig.returnType = ret → c.maxLocals = n → meth.locks = false → s.vm.findClass y.cls = some m.cls → (∀ w ∈ AG, w.before av.toArray s = true) →
      va_K (dC, dI) vwCl (tys4 cA) s → va_P (dC, dI) vwCl (wld N lay cA ad M) s.heap → va_S (adS N ad) s.heap s.heap [] → lv_has ls n (lv_args 0 av) →
      W p l e rm s m av.toArray below meth c s.heap [] 0 0 (MQ below Qc av.toArray s 0 0 (adS N ad)) (F0 m 0 ls [])) :
    Met l y (.code y b n ret :: AG) rm (va_Pc av (PCw N lay dC dI cA ad M)) Qc 0 0 (adS N ad) := by
  refine Met.ofW (cc := b) (maxL := n) (ret := ret) hy rfl ?_
  intro p e s m args below meth c s₁ B hml hv
  obtain ⟨rfl, hP, hK⟩ := hv
  have hts := atoms_spec (ws := Cond.code y b n ret :: AG) B.pre
  rw [lg_entry_eq]
  exact body p e s m below meth c _ B.exec B.bytes B.returns hml B.notSynchronized (findClass_of_methodNamed B.named) (fun w h => hts w (List.mem_cons_of_mem _ h)) hK hP va_S.rf (lv_entry av hn)
