section ROWS
variable {p : Program} {l : Launch} {e : Env} {R : Room} {s : State} {m : MethodId} {args : Array Value} {below : List Frame} {meth : Method} {c : Code} {H : Heap} {locs : List Loc} {cells slots : Nat} {Q : State → Prop}
variable {cc : ByteArray} {pc : Nat} {ls : Array Slot} {rest : List Value} {N : Nat} {lay : Nat → Dsc} {dC : Nat → ClassId} {dI : Nat → Nat → Nat} {cA : Nat → ClassId} {ad : Nat → Nat} {M : Mem} {A : Nat → Prop} {H0 : Heap}
/-! branches in one form: x < y, y < x, x = y -/
theorem jI_lt (hx : p.tables.exec = Jvm.exec) (hb : c.code = cc) {x y : Int32} {off : Int} {tgt : Nat} (hdg : decode cc pc = .ok (.if_icmp .lt off, 3)) (ht : (pc : Int) + off = (tgt : Int))
    (kt : x < y → W p l e R s m args below meth c H locs cells slots Q (F0 m tgt ls rest)) (kf : ¬ x < y → W p l e R s m args below meth c H locs cells slots Q (F0 m (pc + 3) ls rest)) : W p l e R s m args below meth c H locs cells slots Q (F0 m pc ls (.int y :: .int x :: rest)) := lv_icmp_lt hx hb hdg ht kt kf
theorem i32_le {x y : Int32} : y ≤ x ↔ ¬ x < y := by rw [Int32.lt_iff_toInt_lt, Int32.le_iff_toInt_le]; omega
theorem i64_le {x y : Int64} : y ≤ x ↔ ¬ x < y := by rw [Int64.lt_iff_toInt_lt, Int64.le_iff_toInt_le]; omega
theorem jI_ge (hx : p.tables.exec = Jvm.exec) (hb : c.code = cc) {x y : Int32} {off : Int} {tgt : Nat} (hdg : decode cc pc = .ok (.if_icmp .ge off, 3)) (ht : (pc : Int) + off = (tgt : Int))
    (kt : x < y → W p l e R s m args below meth c H locs cells slots Q (F0 m (pc + 3) ls rest)) (kf : ¬ x < y → W p l e R s m args below meth c H locs cells slots Q (F0 m tgt ls rest)) : W p l e R s m args below meth c H locs cells slots Q (F0 m pc ls (.int y :: .int x :: rest)) :=
  lv_icmp_ge hx hb hdg ht (fun h => kf (i32_le.mp h)) (fun h => kt (Decidable.not_not.mp (fun g => h (i32_le.mpr g))))
theorem jI_gt (hx : p.tables.exec = Jvm.exec) (hb : c.code = cc) {x y : Int32} {off : Int} {tgt : Nat} (hdg : decode cc pc = .ok (.if_icmp .gt off, 3)) (ht : (pc : Int) + off = (tgt : Int))
    (kt : y < x → W p l e R s m args below meth c H locs cells slots Q (F0 m tgt ls rest)) (kf : ¬ y < x → W p l e R s m args below meth c H locs cells slots Q (F0 m (pc + 3) ls rest)) : W p l e R s m args below meth c H locs cells slots Q (F0 m pc ls (.int y :: .int x :: rest)) := lv_icmp_gt hx hb hdg ht kt kf
theorem jI_le (hx : p.tables.exec = Jvm.exec) (hb : c.code = cc) {x y : Int32} {off : Int} {tgt : Nat} (hdg : decode cc pc = .ok (.if_icmp .le off, 3)) (ht : (pc : Int) + off = (tgt : Int))
    (kt : y < x → W p l e R s m args below meth c H locs cells slots Q (F0 m (pc + 3) ls rest)) (kf : ¬ y < x → W p l e R s m args below meth c H locs cells slots Q (F0 m tgt ls rest)) : W p l e R s m args below meth c H locs cells slots Q (F0 m pc ls (.int y :: .int x :: rest)) :=
  lv_icmp_le hx hb hdg ht (fun h => kf (i32_le.mp h)) (fun h => kt (Decidable.not_not.mp (fun g => h (i32_le.mpr g))))
theorem jI_eq (hx : p.tables.exec = Jvm.exec) (hb : c.code = cc) {x y : Int32} {off : Int} {tgt : Nat} (hdg : decode cc pc = .ok (.if_icmp .eq off, 3)) (ht : (pc : Int) + off = (tgt : Int))
    (kt : x = y → W p l e R s m args below meth c H locs cells slots Q (F0 m tgt ls rest)) (kf : ¬ x = y → W p l e R s m args below meth c H locs cells slots Q (F0 m (pc + 3) ls rest)) : W p l e R s m args below meth c H locs cells slots Q (F0 m pc ls (.int y :: .int x :: rest)) := lv_icmp_eq hx hb hdg ht kt kf
theorem jI_ne (hx : p.tables.exec = Jvm.exec) (hb : c.code = cc) {x y : Int32} {off : Int} {tgt : Nat} (hdg : decode cc pc = .ok (.if_icmp .ne off, 3)) (ht : (pc : Int) + off = (tgt : Int))
    (kt : x = y → W p l e R s m args below meth c H locs cells slots Q (F0 m (pc + 3) ls rest)) (kf : ¬ x = y → W p l e R s m args below meth c H locs cells slots Q (F0 m tgt ls rest)) : W p l e R s m args below meth c H locs cells slots Q (F0 m pc ls (.int y :: .int x :: rest)) :=
  lv_icmp_ne hx hb hdg ht (fun h => kf h) (fun h => kt h)
theorem j0_lt (hx : p.tables.exec = Jvm.exec) (hb : c.code = cc) {x : Int32} {off : Int} {tgt : Nat} (hdg : decode cc pc = .ok (.ifCond .lt off, 3)) (ht : (pc : Int) + off = (tgt : Int))
    (kt : x < 0 → W p l e R s m args below meth c H locs cells slots Q (F0 m tgt ls rest)) (kf : ¬ x < 0 → W p l e R s m args below meth c H locs cells slots Q (F0 m (pc + 3) ls rest)) : W p l e R s m args below meth c H locs cells slots Q (F0 m pc ls (.int x :: rest)) := lv_if_lt hx hb hdg ht kt kf
theorem j0_ge (hx : p.tables.exec = Jvm.exec) (hb : c.code = cc) {x : Int32} {off : Int} {tgt : Nat} (hdg : decode cc pc = .ok (.ifCond .ge off, 3)) (ht : (pc : Int) + off = (tgt : Int))
    (kt : x < 0 → W p l e R s m args below meth c H locs cells slots Q (F0 m (pc + 3) ls rest)) (kf : ¬ x < 0 → W p l e R s m args below meth c H locs cells slots Q (F0 m tgt ls rest)) : W p l e R s m args below meth c H locs cells slots Q (F0 m pc ls (.int x :: rest)) :=
  lv_if_ge hx hb hdg ht (fun h => kf (i32_le.mp h)) (fun h => kt (Decidable.not_not.mp (fun g => h (i32_le.mpr g))))
theorem j0_gt (hx : p.tables.exec = Jvm.exec) (hb : c.code = cc) {x : Int32} {off : Int} {tgt : Nat} (hdg : decode cc pc = .ok (.ifCond .gt off, 3)) (ht : (pc : Int) + off = (tgt : Int))
    (kt : 0 < x → W p l e R s m args below meth c H locs cells slots Q (F0 m tgt ls rest)) (kf : ¬ 0 < x → W p l e R s m args below meth c H locs cells slots Q (F0 m (pc + 3) ls rest)) : W p l e R s m args below meth c H locs cells slots Q (F0 m pc ls (.int x :: rest)) := lv_if_gt hx hb hdg ht kt kf
theorem j0_le (hx : p.tables.exec = Jvm.exec) (hb : c.code = cc) {x : Int32} {off : Int} {tgt : Nat} (hdg : decode cc pc = .ok (.ifCond .le off, 3)) (ht : (pc : Int) + off = (tgt : Int))
    (kt : 0 < x → W p l e R s m args below meth c H locs cells slots Q (F0 m (pc + 3) ls rest)) (kf : ¬ 0 < x → W p l e R s m args below meth c H locs cells slots Q (F0 m tgt ls rest)) : W p l e R s m args below meth c H locs cells slots Q (F0 m pc ls (.int x :: rest)) :=
  lv_if_le hx hb hdg ht (fun h => kf (i32_le.mp h)) (fun h => kt (Decidable.not_not.mp (fun g => h (i32_le.mpr g))))
theorem j0_eq (hx : p.tables.exec = Jvm.exec) (hb : c.code = cc) {x : Int32} {off : Int} {tgt : Nat} (hdg : decode cc pc = .ok (.ifCond .eq off, 3)) (ht : (pc : Int) + off = (tgt : Int))
    (kt : x = 0 → W p l e R s m args below meth c H locs cells slots Q (F0 m tgt ls rest)) (kf : ¬ x = 0 → W p l e R s m args below meth c H locs cells slots Q (F0 m (pc + 3) ls rest)) : W p l e R s m args below meth c H locs cells slots Q (F0 m pc ls (.int x :: rest)) := lv_if_eq hx hb hdg ht kt kf
theorem j0_ne (hx : p.tables.exec = Jvm.exec) (hb : c.code = cc) {x : Int32} {off : Int} {tgt : Nat} (hdg : decode cc pc = .ok (.ifCond .ne off, 3)) (ht : (pc : Int) + off = (tgt : Int))
    (kt : x = 0 → W p l e R s m args below meth c H locs cells slots Q (F0 m (pc + 3) ls rest)) (kf : ¬ x = 0 → W p l e R s m args below meth c H locs cells slots Q (F0 m tgt ls rest)) : W p l e R s m args below meth c H locs cells slots Q (F0 m pc ls (.int x :: rest)) :=
  lv_if_ne hx hb hdg ht (fun h => kf h) (fun h => kt h)
/-! lcmp and its branch, in one -/
theorem jL_lt (hx : p.tables.exec = Jvm.exec) (hb : c.code = cc) {x y : Int64} {off : Int} {tgt : Nat} (hd0 : decode cc pc = .ok (.lcmp, 1)) (hdg : decode cc (pc + 1) = .ok (.ifCond .lt off, 3)) (ht : ((pc + 1 : Nat) : Int) + off = (tgt : Int))
    (kt : x < y → W p l e R s m args below meth c H locs cells slots Q (F0 m tgt ls rest)) (kf : ¬ x < y → W p l e R s m args below meth c H locs cells slots Q (F0 m (pc + 4) ls rest)) : W p l e R s m args below meth c H locs cells slots Q (F0 m pc ls (.long y :: .long x :: rest)) :=
  W.lcmp hx hb hd0 (lv_if_lt hx hb hdg ht (fun h => kt ((lg_cmp_lt x y).mp h)) (fun h => kf (fun g => h ((lg_cmp_lt x y).mpr g))))
theorem jL_ge (hx : p.tables.exec = Jvm.exec) (hb : c.code = cc) {x y : Int64} {off : Int} {tgt : Nat} (hd0 : decode cc pc = .ok (.lcmp, 1)) (hdg : decode cc (pc + 1) = .ok (.ifCond .ge off, 3)) (ht : ((pc + 1 : Nat) : Int) + off = (tgt : Int))
    (kt : x < y → W p l e R s m args below meth c H locs cells slots Q (F0 m (pc + 4) ls rest)) (kf : ¬ x < y → W p l e R s m args below meth c H locs cells slots Q (F0 m tgt ls rest)) : W p l e R s m args below meth c H locs cells slots Q (F0 m pc ls (.long y :: .long x :: rest)) :=
  W.lcmp hx hb hd0 (j0_ge hx hb hdg ht (fun h => kt ((lg_cmp_lt x y).mp h)) (fun h => kf (fun g => h ((lg_cmp_lt x y).mpr g))))
theorem jL_gt (hx : p.tables.exec = Jvm.exec) (hb : c.code = cc) {x y : Int64} {off : Int} {tgt : Nat} (hd0 : decode cc pc = .ok (.lcmp, 1)) (hdg : decode cc (pc + 1) = .ok (.ifCond .gt off, 3)) (ht : ((pc + 1 : Nat) : Int) + off = (tgt : Int))
    (kt : y < x → W p l e R s m args below meth c H locs cells slots Q (F0 m tgt ls rest)) (kf : ¬ y < x → W p l e R s m args below meth c H locs cells slots Q (F0 m (pc + 4) ls rest)) : W p l e R s m args below meth c H locs cells slots Q (F0 m pc ls (.long y :: .long x :: rest)) :=
  W.lcmp hx hb hd0 (j0_gt hx hb hdg ht (fun h => kt ((lg_cmp_gt x y).mp h)) (fun h => kf (fun g => h ((lg_cmp_gt x y).mpr g))))
theorem jL_le (hx : p.tables.exec = Jvm.exec) (hb : c.code = cc) {x y : Int64} {off : Int} {tgt : Nat} (hd0 : decode cc pc = .ok (.lcmp, 1)) (hdg : decode cc (pc + 1) = .ok (.ifCond .le off, 3)) (ht : ((pc + 1 : Nat) : Int) + off = (tgt : Int))
    (kt : y < x → W p l e R s m args below meth c H locs cells slots Q (F0 m (pc + 4) ls rest)) (kf : ¬ y < x → W p l e R s m args below meth c H locs cells slots Q (F0 m tgt ls rest)) : W p l e R s m args below meth c H locs cells slots Q (F0 m pc ls (.long y :: .long x :: rest)) :=
  W.lcmp hx hb hd0 (j0_le hx hb hdg ht (fun h => kt ((lg_cmp_gt x y).mp h)) (fun h => kf (fun g => h ((lg_cmp_gt x y).mpr g))))
theorem jL_eq (hx : p.tables.exec = Jvm.exec) (hb : c.code = cc) {x y : Int64} {off : Int} {tgt : Nat} (hd0 : decode cc pc = .ok (.lcmp, 1)) (hdg : decode cc (pc + 1) = .ok (.ifCond .eq off, 3)) (ht : ((pc + 1 : Nat) : Int) + off = (tgt : Int))
    (kt : x = y → W p l e R s m args below meth c H locs cells slots Q (F0 m tgt ls rest)) (kf : ¬ x = y → W p l e R s m args below meth c H locs cells slots Q (F0 m (pc + 4) ls rest)) : W p l e R s m args below meth c H locs cells slots Q (F0 m pc ls (.long y :: .long x :: rest)) :=
  W.lcmp hx hb hd0 (j0_eq hx hb hdg ht (fun h => kt ((lg_cmp_eq x y).mp h)) (fun h => kf (fun g => h ((lg_cmp_eq x y).mpr g))))
theorem jL_ne (hx : p.tables.exec = Jvm.exec) (hb : c.code = cc) {x y : Int64} {off : Int} {tgt : Nat} (hd0 : decode cc pc = .ok (.lcmp, 1)) (hdg : decode cc (pc + 1) = .ok (.ifCond .ne off, 3)) (ht : ((pc + 1 : Nat) : Int) + off = (tgt : Int))
    (kt : x = y → W p l e R s m args below meth c H locs cells slots Q (F0 m (pc + 4) ls rest)) (kf : ¬ x = y → W p l e R s m args below meth c H locs cells slots Q (F0 m tgt ls rest)) : W p l e R s m args below meth c H locs cells slots Q (F0 m pc ls (.long y :: .long x :: rest)) :=
  W.lcmp hx hb hd0 (j0_ne hx hb hdg ht (fun h => kt ((lg_cmp_eq x y).mp h)) (fun h => kf (fun g => h ((lg_cmp_eq x y).mpr g))))
/-! a value on top by another name -/
theorem w_eqi {x y : Int32} (h : x = y) (k : W p l e R s m args below meth c H locs cells slots Q (F0 m pc ls (.int y :: rest))) : W p l e R s m args below meth c H locs cells slots Q (F0 m pc ls (.int x :: rest)) := by rw [h]; exact k
theorem w_eql {x y : Int64} (h : x = y) (k : W p l e R s m args below meth c H locs cells slots Q (F0 m pc ls (.long y :: rest))) : W p l e R s m args below meth c H locs cells slots Q (F0 m pc ls (.long x :: rest)) := by rw [h]; exact k
/-! fields and arrays of a layout's world -/
theorem w_get (hx : p.tables.exec = Jvm.exec) (hb : c.code = cc) (hts : ∀ w ∈ AG, w.before args s = true) (hK : va_K (dC, dI) vwCl (tys4 cA) s) (hP : va_P (dC, dI) vwCl (wld N lay cA ad M) H) {own ref C : String} {T : u_T} {NF ci n index : Nat} {fds : List (Nat × Nat)} (hown : s.vm.findClass own = some m.cls)
    {k : Nat} (hk : k < N) (hl : lay k = (0, ci, n, fds)) (hc : vwCl[ci]? = some (C, T, NF)) (hin : ∀ w ∈ u_ws C T NF, w ∈ AG) (f : Nat) (hf : f < NF) (hlink : Cond.fieldLink own index ref (T f).2.1 (T f).2.2.1 ∈ AG) (href : (T f).1 = ref) {d : Nat × Nat} (hd : fds[f]? = some d) {v : Value} (hv : fvl ad M d = v)
    (hdg : decode cc pc = .ok (.getfield index, 3)) (kk : W p l e R s m args below meth c H locs cells slots Q (F0 m (pc + 3) ls (v :: rest))) : W p l e R s m args below meth c H locs cells slots Q (F0 m pc ls (.ref (ad k) :: rest)) := by
  subst href
  have he : (wld N lay cA ad M)[k]? = some (ad k, .inr (ci, fds.map (fvl ad M))) := by rw [wld_at hk, cel_obj hl]
  exact va_get (D := (dC, dI)) (ci := ci) (v := v) (C := C) (T := T) (N := NF) hx hb hts hin hown hK hP k he hc f hf (hts _ hlink) (fun _ h9 => h9) (by rw [List.getElem?_map, hd]; simp [hv]) hdg kk
theorem w_putI (hx : p.tables.exec = Jvm.exec) (hb : c.code = cc) (hts : ∀ w ∈ AG, w.before args s = true) (hK : va_K (dC, dI) vwCl (tys4 cA) s) (hP : va_P (dC, dI) vwCl (wld N lay cA ad M) H) (hI : Inj N ad) (hS : va_S A H0 H locs) (hA : ∀ q, adS N ad q → A q) {own ref C : String} {T : u_T} {NF ci n index : Nat} {fds : List (Nat × Nat)} (hown : s.vm.findClass own = some m.cls)
    (ty0 : Nat → FieldType) (hty : ∀ k, k < NF → parseFieldDescriptor (T k).2.2.1 = some (ty0 k)) (hnm : ∀ a, a < NF → ∀ b, b < NF → a ≠ b → (T a).2.1 ≠ (T b).2.1)
    {k : Nat} (hk : k < N) (hl : lay k = (0, ci, n, fds)) (hc : vwCl[ci]? = some (C, T, NF)) (hin : ∀ w ∈ u_ws C T NF, w ∈ AG) (f : Nat) (hf : f < NF) (hlink : Cond.fieldLink own index ref (T f).2.1 (T f).2.2.1 ∈ AG) (href : (T f).1 = ref) (hfin : (T f).2.2.2 = false) (hI32 : parseFieldDescriptor (T f).2.2.1 = some .int) {i : Nat} (hd : fds[f]? = some (1, i)) (hu : uF N lay k f (1, i) = true) {v : Int32}
    (hdg : decode cc pc = .ok (.putfield index, 3)) (kk : ∀ (H1 : Heap) (locs1 : List Loc), va_P (dC, dI) vwCl (wld N lay cA ad (sI M i v)) H1 → va_S A H0 H1 locs1 → W p l e R s m args below meth c H1 locs1 cells slots Q (F0 m (pc + 3) ls rest)) : W p l e R s m args below meth c H locs cells slots Q (F0 m pc ls (.int v :: .ref (ad k) :: rest)) := by
  subst href
  have he : (wld N lay cA ad M)[k]? = some (ad k, .inr (ci, fds.map (fvl ad M))) := by rw [wld_at hk, cel_obj hl]
  refine va_put (D := (dC, dI)) (ci := ci) (v := .int v) (ty := .int) (C := C) (T := T) (N := NF) hx hb hts hin ty0 hty hnm hown hK hP (wld_D hI hA) hS k he hc f hf (hts _ hlink) (fun _ h9 => h9) hfin hI32 rfl rfl (by rw [List.length_map]; exact (List.getElem?_eq_some_iff.mp hd).1) hdg (fun H1 locs1 hP1 _ hS1 => kk H1 locs1 ?_ hS1)
  rw [set_sI hk hl hd hu] at hP1
  exact hP1
theorem w_putL (hx : p.tables.exec = Jvm.exec) (hb : c.code = cc) (hts : ∀ w ∈ AG, w.before args s = true) (hK : va_K (dC, dI) vwCl (tys4 cA) s) (hP : va_P (dC, dI) vwCl (wld N lay cA ad M) H) (hI : Inj N ad) (hS : va_S A H0 H locs) (hA : ∀ q, adS N ad q → A q) (hok : lOk N lay = true) {own ref C : String} {T : u_T} {NF ci n index : Nat} {fds : List (Nat × Nat)} (hown : s.vm.findClass own = some m.cls)
    (ty0 : Nat → FieldType) (hty : ∀ k, k < NF → parseFieldDescriptor (T k).2.2.1 = some (ty0 k)) (hnm : ∀ a, a < NF → ∀ b, b < NF → a ≠ b → (T a).2.1 ≠ (T b).2.1)
    {k : Nat} (hk : k < N) (hl : lay k = (0, ci, n, fds)) (hc : vwCl[ci]? = some (C, T, NF)) (hin : ∀ w ∈ u_ws C T NF, w ∈ AG) (f : Nat) (hf : f < NF) (hlink : Cond.fieldLink own index ref (T f).2.1 (T f).2.2.1 ∈ AG) (href : (T f).1 = ref) (hfin : (T f).2.2.2 = false) (hI32 : parseFieldDescriptor (T f).2.2.1 = some .long) {i : Nat} (hd : fds[f]? = some (2, i)) (hu : uF N lay k f (2, i) = true) {v : Int64}
    (hdg : decode cc pc = .ok (.putfield index, 3)) (kk : ∀ (H1 : Heap) (locs1 : List Loc), va_P (dC, dI) vwCl (wld N lay cA ad (sL M i v)) H1 → va_S A H0 H1 locs1 → W p l e R s m args below meth c H1 locs1 cells slots Q (F0 m (pc + 3) ls rest)) : W p l e R s m args below meth c H locs cells slots Q (F0 m pc ls (.long v :: .ref (ad k) :: rest)) := by
  subst href
  have he : (wld N lay cA ad M)[k]? = some (ad k, .inr (ci, fds.map (fvl ad M))) := by rw [wld_at hk, cel_obj hl]
  refine va_put (D := (dC, dI)) (ci := ci) (v := .long v) (ty := .long) (C := C) (T := T) (N := NF) hx hb hts hin ty0 hty hnm hown hK hP (wld_D hI hA) hS k he hc f hf (hts _ hlink) (fun _ h9 => h9) hfin hI32 rfl rfl (by rw [List.length_map]; exact (List.getElem?_eq_some_iff.mp hd).1) hdg (fun H1 locs1 hP1 _ hS1 => kk H1 locs1 ?_ hS1)
  rw [set_sL hk hl hd hu hok] at hP1
  exact hP1
theorem w_lald (hx : p.tables.exec = Jvm.exec) (hb : c.code = cc) (hK : va_K (dC, dI) vwCl (tys4 cA) s) (hP : va_P (dC, dI) vwCl (wld N lay cA ad M) H) {k a n : Nat} {fds : List (Nat × Nat)} (hk : k < N) (hl : lay k = (2, a, n, fds)) {i : Int32} (hin : vp_in i n) (hdg : decode cc pc = .ok (.laload, 1))
    (kk : W p l e R s m args below meth c H locs cells slots Q (F0 m (pc + 1) ls (.long (gJ M a i.toNatClampNeg) :: rest))) : W p l e R s m args below meth c H locs cells slots Q (F0 m pc ls (.int i :: .ref (ad k) :: rest)) :=
  va_lald (D := (dC, dI)) hx hb hK hP k 1 (f := gJ M a) (n := n) (cA := cA 1) (by rw [wld_at hk, hl]; rfl) rfl hin hdg kk
theorem w_last (hx : p.tables.exec = Jvm.exec) (hb : c.code = cc) (hK : va_K (dC, dI) vwCl (tys4 cA) s) (hP : va_P (dC, dI) vwCl (wld N lay cA ad M) H) (hI : Inj N ad) (hS : va_S A H0 H locs) (hA : ∀ q, adS N ad q → A q) {k a n : Nat} {fds : List (Nat × Nat)} (hk : k < N) (hl : lay k = (2, a, n, fds)) (hu : uA N lay k (fun x => x == 2) a = true) {i : Int32} {x : Int64} (hin : vp_in i n) (hdg : decode cc pc = .ok (.lastore, 1))
    (kk : ∀ (H1 : Heap) (locs1 : List Loc), va_P (dC, dI) vwCl (wld N lay cA ad (sJ M a (vp_updL (gJ M a) i.toNatClampNeg x))) H1 → va_S A H0 H1 locs1 → W p l e R s m args below meth c H1 locs1 cells slots Q (F0 m (pc + 1) ls rest)) : W p l e R s m args below meth c H locs cells slots Q (F0 m pc ls (.long x :: .int i :: .ref (ad k) :: rest)) := by
  refine va_last (D := (dC, dI)) hx hb hK hP (wld_D hI hA) hS k 1 (f := gJ M a) (n := n) (cA := cA 1) (by rw [wld_at hk, hl]; rfl) rfl hin hdg (fun H1 locs1 hP1 _ hS1 => kk H1 locs1 ?_ hS1)
  rw [set_sJ hl hu] at hP1
  exact hP1
theorem w_iald (hx : p.tables.exec = Jvm.exec) (hb : c.code = cc) (hK : va_K (dC, dI) vwCl (tys4 cA) s) (hP : va_P (dC, dI) vwCl (wld N lay cA ad M) H) {k a n : Nat} {fds : List (Nat × Nat)} (hk : k < N) (hl : lay k = (1, a, n, fds)) {i : Int32} (hin : vp_in i n) (hdg : decode cc pc = .ok (.iaload, 1))
    (kk : W p l e R s m args below meth c H locs cells slots Q (F0 m (pc + 1) ls (.int (gB M a i.toNatClampNeg) :: rest))) : W p l e R s m args below meth c H locs cells slots Q (F0 m pc ls (.int i :: .ref (ad k) :: rest)) :=
  va_iald (D := (dC, dI)) hx hb hK hP k 0 (f := gB M a) (n := n) (cA := cA 0) (by rw [wld_at hk, hl]; rfl) rfl hin hdg kk
theorem w_iast (hx : p.tables.exec = Jvm.exec) (hb : c.code = cc) (hK : va_K (dC, dI) vwCl (tys4 cA) s) (hP : va_P (dC, dI) vwCl (wld N lay cA ad M) H) (hI : Inj N ad) (hS : va_S A H0 H locs) (hA : ∀ q, adS N ad q → A q) {k a n : Nat} {fds : List (Nat × Nat)} (hk : k < N) (hl : lay k = (1, a, n, fds)) (hu : uA N lay k (fun x => x == 1 || x == 3) a = true) {i : Int32} {x : Int32} (hin : vp_in i n) (hdg : decode cc pc = .ok (.iastore, 1))
    (kk : ∀ (H1 : Heap) (locs1 : List Loc), va_P (dC, dI) vwCl (wld N lay cA ad (sB M a (upd (gB M a) i.toNatClampNeg x))) H1 → va_S A H0 H1 locs1 → W p l e R s m args below meth c H1 locs1 cells slots Q (F0 m (pc + 1) ls rest)) : W p l e R s m args below meth c H locs cells slots Q (F0 m pc ls (.int x :: .int i :: .ref (ad k) :: rest)) := by
  refine va_iast (D := (dC, dI)) hx hb hK hP (wld_D hI hA) hS k 0 (f := gB M a) (n := n) (cA := cA 0) (by rw [wld_at hk, hl]; rfl) rfl hin hdg (fun H1 locs1 hP1 _ hS1 => kk H1 locs1 ?_ hS1)
  have h9 := set_sB (cA := cA) (ad := ad) (M := M) (g := upd (gB M a) i.toNatClampNeg x) hl (Or.inl rfl) hu
  rw [if_pos rfl] at h9
  rw [h9] at hP1
  exact hP1
theorem w_zald (hx : p.tables.exec = Jvm.exec) (hb : c.code = cc) (hK : va_K (dC, dI) vwCl (tys4 cA) s) (hP : va_P (dC, dI) vwCl (wld N lay cA ad M) H) {k a n : Nat} {fds : List (Nat × Nat)} (hk : k < N) (hl : lay k = (3, a, n, fds)) {i : Int32} (hin : vp_in i n) (hdg : decode cc pc = .ok (.baload, 1))
    (kk : W p l e R s m args below meth c H locs cells slots Q (F0 m (pc + 1) ls (.int (gB M a i.toNatClampNeg) :: rest))) : W p l e R s m args below meth c H locs cells slots Q (F0 m pc ls (.int i :: .ref (ad k) :: rest)) :=
  va_zald (D := (dC, dI)) hx hb hK hP k 2 (f := gB M a) (n := n) (cA := cA 2) (by rw [wld_at hk, hl]; rfl) rfl hin hdg kk
theorem w_zast (hx : p.tables.exec = Jvm.exec) (hb : c.code = cc) (hK : va_K (dC, dI) vwCl (tys4 cA) s) (hP : va_P (dC, dI) vwCl (wld N lay cA ad M) H) (hI : Inj N ad) (hS : va_S A H0 H locs) (hA : ∀ q, adS N ad q → A q) {k a n : Nat} {fds : List (Nat × Nat)} (hk : k < N) (hl : lay k = (3, a, n, fds)) (hu : uA N lay k (fun x => x == 1 || x == 3) a = true) {i : Int32} {x : Int32} (hb01 : vp_nar .boolean x = x) (hin : vp_in i n) (hdg : decode cc pc = .ok (.bastore, 1))
    (kk : ∀ (H1 : Heap) (locs1 : List Loc), va_P (dC, dI) vwCl (wld N lay cA ad (sB M a (upd (gB M a) i.toNatClampNeg x))) H1 → va_S A H0 H1 locs1 → W p l e R s m args below meth c H1 locs1 cells slots Q (F0 m (pc + 1) ls rest)) : W p l e R s m args below meth c H locs cells slots Q (F0 m pc ls (.int x :: .int i :: .ref (ad k) :: rest)) := by
  refine va_zast (D := (dC, dI)) hx hb hK hP (wld_D hI hA) hS k 2 (f := gB M a) (n := n) (cA := cA 2) (by rw [wld_at hk, hl]; rfl) rfl hin hdg (fun H1 locs1 hP1 _ hS1 => kk H1 locs1 ?_ hS1)
  have h9 := set_sB (cA := cA) (ad := ad) (M := M) (g := upd (gB M a) i.toNatClampNeg x) hl (Or.inr rfl) hu
  rw [if_neg (by decide)] at h9
  rw [hb01, h9] at hP1
  exact hP1
theorem w_alen (hx : p.tables.exec = Jvm.exec) (hb : c.code = cc) (hK : va_K (dC, dI) vwCl (tys4 cA) s) (hP : va_P (dC, dI) vwCl (wld N lay cA ad M) H) {k kd a n : Nat} {fds : List (Nat × Nat)} (hk : k < N) (hl : lay k = (kd, a, n, fds)) (hkd : kd = 2 ∨ kd = 4) {v : Int32} (hv : Int32.ofNat n = v) (hdg : decode cc pc = .ok (.arraylength, 1))
    (kk : W p l e R s m args below meth c H locs cells slots Q (F0 m (pc + 1) ls (.int v :: rest))) : W p l e R s m args below meth c H locs cells slots Q (F0 m pc ls (.ref (ad k) :: rest)) := by
  rcases hkd with rfl | rfl
  · exact va_alen (D := (dC, dI)) hx hb hK hP k 1 (x := (n, .inr (.inl (gJ M a)))) (cA := cA 1) (by rw [wld_at hk, hl]; rfl) (ty := .long) rfl hv hdg kk
  · exact va_alen (D := (dC, dI)) hx hb hK hP k 3 (x := (n, .inr (.inr (.inr (.inr (fun j => some (ad (a + j)))))))) (cA := cA 3) (by rw [wld_at hk, hl]; rfl) (ty := .object "Clockhouse$Server") rfl hv hdg kk
theorem w_ald (hx : p.tables.exec = Jvm.exec) (hb : c.code = cc) (hK : va_K (dC, dI) vwCl (tys4 cA) s) (hP : va_P (dC, dI) vwCl (wld N lay cA ad M) H) {k a n : Nat} {fds : List (Nat × Nat)} (hk : k < N) (hl : lay k = (4, a, n, fds)) {i : Int32} (hin : vp_in i n) (hdg : decode cc pc = .ok (.aaload, 1))
    (kk : W p l e R s m args below meth c H locs cells slots Q (F0 m (pc + 1) ls (.ref (ad (a + i.toNatClampNeg)) :: rest))) : W p l e R s m args below meth c H locs cells slots Q (F0 m pc ls (.int i :: .ref (ad k) :: rest)) :=
  va_aldq (D := (dC, dI)) hx hb hK hP k 3 (f := fun j => some (ad (a + j))) (n := n) (C := "Clockhouse$Server") (cA := cA 3) (by rw [wld_at hk, hl]; rfl) rfl hin hdg kk
theorem w_recv {ci n : Nat} {q : vw_C} {fds : List (Nat × Nat)} (hK : va_K (dC, dI) vwCl (tys4 cA) s) (hP : va_P (dC, dI) vwCl (wld N lay cA ad M) H) {k : Nat} (hk : k < N) (hl : lay k = (0, ci, n, fds)) (hc : vwCl[ci]? = some q) : ∃ cell : Cell, H[ad k]? = some cell ∧ cell.vm.isStatics = false ∧ s.vm.findClass q.1 = some cell.cls :=
  va_recv hK hP hc (q0 := k) (fs := fds.map (fvl ad M)) (by rw [wld_at hk, cel_obj hl])
end ROWS
