/-! the model's memory in order: servers and kept samples are small numbers, flags are 0 or 1 -/
def sn (M : Mem) : Nat := (gI M 6).toNatClampNeg
def kn (M : Mem) (j : Nat) : Nat := (gB M 5 j).toNatClampNeg
def WFm (M : Mem) : Prop := (sn M ≤ 8 ∧ gI M 6 = nI (sn M)) ∧ (∀ j, j < 8 → kn M j ≤ 8 ∧ gB M 5 j = nI (kn M j)) ∧ (∀ j, j < 8 → gB M 6 j = 0 ∨ gB M 6 j = 1) ∧ (∀ j, j < 8 → gB M 7 j = 0 ∨ gB M 7 j = 1)
theorem WFs {M : Mem} (w : WFm M) : sn M ≤ 8 ∧ gI M 6 = nI (sn M) := w.1
theorem WFk {M : Mem} (w : WFm M) {j : Nat} (h : j < 8) : kn M j ≤ 8 ∧ gB M 5 j = nI (kn M j) := w.2.1 j h
theorem WFm_sI {M : Mem} {i : Nat} {v : Int32} (w : WFm M) (h : i ≠ 6) : WFm (sI M i v) := by
  have e : gI (sI M i v) 6 = gI M 6 := by simp [gI, sI, Ne.symm h]
  refine ⟨?_, w.2⟩
  unfold sn
  rw [e]
  exact w.1
theorem WFm_srv {M : Mem} {v : Int32} (n : Nat) (w : WFm M) (hn : n ≤ 8) (hv : v = nI n) : WFm (sI M 6 v) := by
  have e : gI (sI M 6 v) 6 = nI n := by simp [gI, sI, hv]
  refine ⟨?_, w.2⟩
  unfold sn
  rw [e, nI_clamp (by omega)]
  exact ⟨hn, rfl⟩
theorem WFm_sL {M : Mem} {i : Nat} {v : Int64} (w : WFm M) : WFm (sL M i v) := w
theorem WFm_sJ {M : Mem} {i : Nat} {f : Nat → Int64} (w : WFm M) : WFm (sJ M i f) := w
theorem gB_sB {M : Mem} {a b : Nat} {f : Nat → Int32} : gB (sB M a f) b = if b = a then f else gB M b := rfl
theorem WFm_sB {M : Mem} {a : Nat} {f : Nat → Int32} (w : WFm M) (h : a < 5) : WFm (sB M a f) := by
  have h5 : gB (sB M a f) 5 = gB M 5 := if_neg (by omega)
  have h6 : gB (sB M a f) 6 = gB M 6 := if_neg (by omega)
  have h7 : gB (sB M a f) 7 = gB M 7 := if_neg (by omega)
  refine ⟨w.1, fun j hj => ?_, fun j hj => ?_, fun j hj => ?_⟩
  · unfold kn; rw [h5]; exact w.2.1 j hj
  · rw [h6]; exact w.2.2.1 j hj
  · rw [h7]; exact w.2.2.2 j hj
theorem WFm_k {M : Mem} {i : Nat} {v : Int32} (n : Nat) (w : WFm M) (hn : n ≤ 8) (hv : v = nI n) : WFm (sB M 5 (upd (gB M 5) i v)) := by
  have h5 : gB (sB M 5 (upd (gB M 5) i v)) 5 = upd (gB M 5) i v := rfl
  refine ⟨w.1, fun j hj => ?_, fun j hj => w.2.2.1 j hj, fun j hj => w.2.2.2 j hj⟩
  unfold kn
  rw [h5]
  by_cases e : j = i
  · rw [show upd (gB M 5) i v j = v from if_pos e, hv, nI_clamp (by omega)]; exact ⟨hn, rfl⟩
  · rw [show upd (gB M 5) i v j = gB M 5 j from if_neg e]; exact w.2.1 j hj
theorem WFm_6 {M : Mem} {i : Nat} {v : Int32} (w : WFm M) (hv : v = 0 ∨ v = 1) : WFm (sB M 6 (upd (gB M 6) i v)) := by
  refine ⟨w.1, fun j hj => w.2.1 j hj, fun j hj => ?_, fun j hj => w.2.2.2 j hj⟩
  show upd (gB M 6) i v j = 0 ∨ upd (gB M 6) i v j = 1
  by_cases e : j = i
  · rw [show upd (gB M 6) i v j = v from if_pos e]; exact hv
  · rw [show upd (gB M 6) i v j = gB M 6 j from if_neg e]; exact w.2.2.1 j hj
theorem WFm_7 {M : Mem} {i : Nat} {v : Int32} (w : WFm M) (hv : v = 0 ∨ v = 1) : WFm (sB M 7 (upd (gB M 7) i v)) := by
  refine ⟨w.1, fun j hj => w.2.1 j hj, fun j hj => w.2.2.1 j hj, fun j hj => ?_⟩
  show upd (gB M 7) i v j = 0 ∨ upd (gB M 7) i v j = 1
  by_cases e : j = i
  · rw [show upd (gB M 7) i v j = v from if_pos e]; exact hv
  · rw [show upd (gB M 7) i v j = gB M 7 j from if_neg e]; exact w.2.2.2 j hj
theorem kn_sB {M : Mem} {j n : Nat} {v : Int32} (hn : n < 2 ^ 31) (hv : v = nI n) : kn (sB M 5 (upd (gB M 5) j v)) j = n := by
  show (upd (gB M 5) j v j).toNatClampNeg = n
  rw [show upd (gB M 5) j v j = v from if_pos rfl, hv, nI_clamp hn]
theorem bo_nar {x : Int32} (h : x = 0 ∨ x = 1) : vp_nar .boolean x = x := by rcases h with rfl | rfl <;> rfl
theorem nI_of_vp {x : Int32} {n : Nat} (h : vp_in x n) (hn : n < 2 ^ 31) : x = nI x.toNatClampNeg := by
  obtain ⟨j, hj, e⟩ := vp_in_of h hn
  rw [e, nI_clamp (by omega)]
theorem km_ne {n : Nat} (h : ¬ n = 1) (hn : n < 2 ^ 31) : ¬ (nI n).toInt64 - 1 = 0 := by
  rw [nI_l hn]
  intro e
  by_cases h0 : n = 0
  · subst h0; exact absurd e (by decide)
  · have e2 : lN n - lN 1 = lN (n - 1) := lN_sub (by omega)
    have e3 : lN (n - 1) = lN 0 := e2.symm.trans e
    have := (lN_eq (by omega) (by omega)).mp e3
    omega
section KT
variable {p : Program} {l : Launch} {e : Env} {R : Room} {s : State} {m : MethodId} {args : Array Value} {below : List Frame} {meth : Method} {c : Code} {H : Heap} {locs : List Loc} {cells slots : Nat} {Q : State → Prop}
variable {cc bytes : ByteArray} {pc nL maxL nn index mc ms : Nat} {ls : Array Slot} {rest As st0 : List Value} {N : Nat} {lay : Nat → Dsc} {dC : Nat → ClassId} {dI : Nat → Nat → Nat} {cA : Nat → ClassId} {ad : Nat → Nat} {M : Mem} {A : Nat → Prop} {H0 : Heap} {own C : String} {y : MethodName} {ret : Option FieldType} {rm : Room} {b : Addr}
theorem kTi (hx : p.tables.exec = Jvm.exec) (hb : c.code = cc) (hml : c.maxLocals = nL) (hown : s.vm.findClass own = some m.cls) (hts : ∀ w ∈ AG, w.before args s = true) (hK : va_K (dC, dI) vwCl (tys4 cA) s) (hP : va_P (dC, dI) vwCl (wld N lay cA ad M) H) (hS : va_S A H0 H locs) (hA : ∀ q, adS N ad q → A q) {post : Int32 → Mem → Prop}
    (hM : Met l y (Cond.code y bytes maxL ret :: AG) rm (va_Pc As (PCw N lay dC dI cA ad M)) (va_Qi post (PCw N lay dC dI cA ad) (adS N ad)) 0 0 (adS N ad))
    (cw : CallB R s args own index y bytes maxL ret (Cond.code y bytes maxL ret :: AG) rm 0 0 nn ∧ (Cond.static y).before args s = true)
    (hn : As.length = nn) (hsz : ls.size = nL) (hst : st0 = As.reverse ++ rest) (hrm : (rest.map fun v => v.category).sum ≤ 8) (hdg : decode cc pc = .ok (.invokestatic index, 3)) (hf : cells ≤ R.cells ∧ slots ≤ R.slots)
    (kk : ∀ (r : Int32) (u : Mem) (H1 : Heap) (locs1 : List Loc), post r u → va_P (dC, dI) vwCl (wld N lay cA ad u) H1 → va_S A H0 H1 locs1 → H.size ≤ H1.size → (∀ q : Nat, q < H.size → ¬ adS N ad q → H1[q]? = H[q]?) → W p l e R s m args below meth c H1 locs1 cells slots Q (F0 m (pc + 3) ls (.int r :: rest))) : W p l e R s m args below meth c H locs cells slots Q (F0 m pc ls st0) := by
  refine va_calli (va_runS (As := As) (rest := rest) ⟨hx, hb, hml, hown, hts⟩ hM cw ⟨PCw_blind, fun U hU hW => ⟨rfl, by rw [hU]; exact hP, va_K.moved hW.alike hK⟩⟩ rfl hn hsz hst (lv_room hrm) hdg hf) hS (fun q _ h => hA q h) hA (fun r u t H1 locs1 ht hvm hw hB hz hk hS1 => ?_)
  subst ht
  exact kk r u t.heap locs1 hw hB.1 hS1 hz hk
end KT
theorem sn_sI {M : Mem} {n : Nat} {v : Int32} (hn : n < 2 ^ 31) (hv : v = nI n) : sn (sI M 6 v) = n := by
  show (gI (sI M 6 v) 6).toNatClampNeg = n
  have e : gI (sI M 6 v) 6 = nI n := by simp [gI, sI, hv]
  rw [e, nI_clamp hn]
def cntTo (M : Mem) : Nat → Nat
  | 0 => 0
  | i + 1 => cntTo M i + (if gB M 7 i = 0 then 0 else 1)
def cnt7 (M : Mem) : Nat := cntTo M 8
theorem cntTo_le (M : Mem) : ∀ i, cntTo M i ≤ i
  | 0 => Nat.le_refl 0
  | i + 1 => by
    have h := cntTo_le M i
    show cntTo M i + _ ≤ i + 1
    split <;> omega
theorem cntTo_ex {M : Mem} : ∀ {i : Nat}, 0 < cntTo M i → ∃ j, j < i ∧ ¬ gB M 7 j = 0
  | 0, h => absurd h (Nat.lt_irrefl 0)
  | i + 1, h => by
    by_cases c : gB M 7 i = 0
    · have h2 : 0 < cntTo M i := by
        have : cntTo M (i + 1) = cntTo M i + 0 := by show _ + _ = _; rw [if_pos c]
        omega
      obtain ⟨j, hj, hz⟩ := cntTo_ex h2
      exact ⟨j, by omega, hz⟩
    · exact ⟨i, by omega, c⟩
theorem cntTo_drop {M : Mem} {k : Nat} (hk : ¬ gB M 7 k = 0) : ∀ i, cntTo (sB M 7 (upd (gB M 7) k 0)) i + (if k < i then 1 else 0) = cntTo M i
  | 0 => by rfl
  | i + 1 => by
    have ih := cntTo_drop hk i
    show cntTo _ i + (if upd (gB M 7) k 0 i = 0 then 0 else 1) + _ = cntTo M i + (if gB M 7 i = 0 then 0 else 1)
    by_cases e : i = k
    · subst e
      rw [show upd (gB M 7) i 0 i = 0 from if_pos rfl, if_neg hk, if_pos rfl, if_pos (by omega)]
      rw [if_neg (by omega)] at ih
      omega
    · rw [show upd (gB M 7) k 0 i = gB M 7 i from if_neg e]
      by_cases c : k < i
      · have c2 : k < i + 1 := by omega
        rw [if_pos c] at ih; rw [if_pos c2]; omega
      · have c2 : ¬ k < i + 1 := by omega
        rw [if_neg c] at ih; rw [if_neg c2]; omega
theorem cnt_drop {M : Mem} {k : Nat} (h8 : k < 8) (hk : ¬ gB M 7 k = 0) : cnt7 (sB M 7 (upd (gB M 7) k 0)) + 1 = cnt7 M := by
  have h := cntTo_drop hk 8
  rw [if_pos h8] at h
  exact h
theorem sv_ne {M : Mem} {r : Int32} (h : r = nI (cnt7 M)) (c : 3 < r) : 4 ≤ cnt7 M ∧ ¬ r.toInt64 - 1 = 0 := by
  have h8 : cnt7 M ≤ 8 := cntTo_le M 8
  have h4 : 3 < cnt7 M := by rw [h] at c; exact nI_lt8 (i := 3) c (by decide) (by omega)
  refine ⟨h4, ?_⟩
  rw [h]
  exact km_ne (by omega) (by omega)
theorem cnt_step {M : Mem} {i : Nat} {y : Int32} (h : y = nI (cntTo M i)) (c : gB M 7 i = 0) : y + 0 = nI (cntTo M (i + 1)) := by
  show y + 0 = nI (cntTo M i + (if gB M 7 i = 0 then 0 else 1))
  rw [if_pos c, h]
  exact (nI_add _ 0)
theorem cnt_step1 {M : Mem} {i : Nat} {y : Int32} (h : y = nI (cntTo M i)) (c : ¬ gB M 7 i = 0) : y + 1 = nI (cntTo M (i + 1)) := by
  show y + 1 = nI (cntTo M i + (if gB M 7 i = 0 then 0 else 1))
  rw [if_neg c, h]
  exact nI_1 _
/-! weights -/
def WI (M : Mem) (i : Nat) (y : Int64) : Prop := (0 ≤ y.toInt ∧ y.toInt ≤ 1000000 * (i : Int)) ∧ ((∃ j, j < i ∧ ¬ gB M 7 j = 0) → 0 < y.toInt)
theorem WI_0 {M : Mem} : WI M 0 0 := ⟨⟨by decide, by decide⟩, fun ⟨j, h, _⟩ => absurd h (by omega)⟩
theorem WI_skip {M : Mem} {i : Nat} {y : Int64} (h : WI M i y) (c : gB M 7 i = 0) : WI M (i + 1) y := by
  refine ⟨⟨h.1.1, by have := h.1.2; omega⟩, fun ⟨j, hj, hz⟩ => h.2 ⟨j, ?_, hz⟩⟩
  rcases Nat.lt_succ_iff_lt_or_eq.mp hj with h | rfl
  · exact h
  · exact absurd c hz
theorem WI_add {M : Mem} {i : Nat} {y w z : Int64} (h : WI M i y) (hi : i < 8) (h1 : 1 ≤ w.toInt) (h2 : w.toInt ≤ 1000000) (hz : z = y + w) : WI M (i + 1) z := by
  have h3 := h.1.1
  have h4 := h.1.2
  have e : z.toInt = y.toInt + w.toInt := by
    rw [hz, Int64.toInt_add]
    exact Int.bmod_eq_of_le (by omega) (by omega)
  refine ⟨⟨by omega, by omega⟩, fun _ => by omega⟩
theorem wt_lo {w : Int64} (h : ¬ w < 1) : 1 ≤ w.toInt := by
  rw [Int64.lt_iff_toInt_lt] at h
  have : (1 : Int64).toInt = 1 := by decide
  omega
theorem wt_hi (d : Int64) : ((1000000 : Int64) / d).toInt ≤ 1000000 := by
  rw [Int64.toInt_div]
  have e : (1000000 : Int64).toInt = 1000000 := by decide
  rw [e]
  have h1 : ((1000000 : Int).tdiv d.toInt).natAbs ≤ 1000000 := by
    rw [Int.natAbs_tdiv]
    exact Nat.div_le_self _ _
  rw [Int.bmod_eq_of_le (by omega) (by omega)]
  omega
theorem WI_ne {M : Mem} {y : Int64} {i : Nat} (h : WI M i y) (hi : ¬ i < 8) (hs : ∃ j, j < 8 ∧ ¬ gB M 7 j = 0) : ¬ y = 0 := by
  obtain ⟨j, hj, hz⟩ := hs
  have h1 := h.2 ⟨j, by omega, hz⟩
  intro e
  rw [e] at h1
  exact absurd h1 (by decide)
