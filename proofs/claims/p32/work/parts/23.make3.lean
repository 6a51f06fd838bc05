theorem arrV_congr {c : ClassId} {n : Nat} {f g : Nat → Value} (h : ∀ j, j < n → f j = g j) : arrV c n f = arrV c n g := by
  unfold arrV
  congr 1
  apply Array.ext
  · simp
  · intro i h1 h2
    simp at h1
    simp [h i h1]
theorem swapE {D : va_G} {cl : List vw_C} {ws : va_W} {H : Heap} {k a : Nat} {x y : ClassId × vp_A} (hP : va_P D cl ws H) (hk : ws[k]? = some (a, .inl x)) (e : vp_cell x.1 x.2 = vp_cell y.1 y.2) : va_P D cl (ws.set k (a, .inl y)) H := by
  have hl := (List.getElem?_eq_some_iff.mp hk).1
  intro j q hj
  by_cases hjk : j = k
  · subst hjk
    rw [List.getElem?_set_self hl] at hj
    cases hj
    have h1 : H[a]? = some (vp_cell x.1 x.2) := hP j _ hk
    show H[a]? = some (vp_cell y.1 y.2)
    rw [h1, e]
  · rw [List.getElem?_set_ne (Ne.symm hjk)] at hj
    exact hP j q hj
theorem Inj_of {N : Nat} {lay : Nat → Dsc} {cA : Nat → ClassId} {ad : Nat → Nat} {M : Mem} {A : Nat → Prop} (h : va_D A (wld N lay cA ad M)) : Inj N ad :=
  fun i j hi hj hij => h.1 i j _ _ (wld_at hi) (wld_at hj) hij
def M0c : Mem := (fun _ => 0, fun _ => 0, fun _ _ => 0, fun _ _ => 0)
def M0m : Mem := (fun i => if i = 5 then 16 else 0, fun _ => 0, fun _ _ => 0, fun _ _ => 0)
def ad0 (h0 : Nat) (u : Nat → Nat) : Nat → Nat := fun k => if k = 0 then h0 else u k
abbrev arrJ (c : ClassId) (n : Nat) : va_E := .inl (c, n, .inr (.inl (fun _ => 0)))
/-- a server's seven cells -/
def srv7 (cA : Nat → ClassId) (a : Nat → Nat → Nat) (k : Nat) : va_W := [(a k 0, .inr (4, [.ref (a k 1), .ref (a k 2), .ref (a k 3), .int 0, .int 0, .int 0, .int 0, .long 0, .long 0])), (a k 1, .inr (2, [.ref (a k 4)])), (a k 2, .inr (2, [.ref (a k 5)])), (a k 3, .inr (2, [.ref (a k 6)])), (a k 4, arrJ (cA 1) 8), (a k 5, arrJ (cA 1) 8), (a k 6, arrJ (cA 1) 8)]
def SVs (cA : Nat → ClassId) (a : Nat → Nat → Nat) (i : Nat) : va_W := (List.range i).flatMap (srv7 cA a)
theorem SVs_succ {cA : Nat → ClassId} {a : Nat → Nat → Nat} {i : Nat} : SVs cA a (i + 1) = SVs cA a i ++ srv7 cA a i := by
  unfold SVs
  rw [List.range_succ, List.flatMap_append]
  simp
theorem SVs_congr {cA : Nat → ClassId} {a b : Nat → Nat → Nat} {i : Nat} (h : ∀ k, k < i → a k = b k) : SVs cA a i = SVs cA b i := by
  unfold SVs
  rw [List.flatMap_def, List.flatMap_def]
  congr 1
  apply List.map_congr_left
  intro k hk
  have hk' := List.mem_range.mp hk
  unfold srv7
  rw [h k hk']
theorem SVs_len {cA : Nat → ClassId} {a : Nat → Nat → Nat} : ∀ {i : Nat}, (SVs cA a i).length = 7 * i
  | 0 => rfl
  | i + 1 => by rw [SVs_succ, List.length_append, SVs_len]; show 7 * i + 7 = _; omega
def nxA (a : Nat → Nat → Nat) (i q : Nat) (u : Nat → Nat) : Nat → Nat → Nat := fun k c => if k = i then (if c = 0 then q else u (c - 1)) else a k c
def rmF (a : Nat → Nat → Nat) (i : Nat) : Nat → Option Nat := fun j => if j < i then some (a j 0) else none
theorem rmF_succ {a : Nat → Nat → Nat} {i q : Nat} {u : Nat → Nat} : va_up (rmF a i) i (some q) = rmF (nxA a i q u) (i + 1) := by
  funext j
  unfold va_up rmF nxA
  by_cases h : j = i
  · subst h; simp
  · by_cases h2 : j < i
    · have : j < i + 1 := by omega
      simp [h, h2, this]
    · have : ¬ j < i + 1 := by omega
      simp [h, h2, this]
