/-! sets as bits of eight -/
def bc (f : Nat → Bool) : Nat → Nat
  | 0 => 0
  | i + 1 => bc f i + (if f i = true then 1 else 0)
theorem bc_congr {f g : Nat → Bool} : ∀ n, (∀ e, e < n → f e = g e) → bc f n = bc g n
  | 0, _ => rfl
  | n + 1, h => by rw [bc, bc, bc_congr n (fun e he => h e (by omega)), h n (by omega)]
theorem bc_le (f : Nat → Bool) : ∀ n, bc f n ≤ n
  | 0 => Nat.le_refl 0
  | n + 1 => by have := bc_le f n; rw [bc]; split <;> omega
theorem bc_pos {f : Nat → Bool} {k : Nat} (h : f k = true) : ∀ n, k < n → 0 < bc f n
  | 0, hk => absurd hk (Nat.not_lt_zero k)
  | n + 1, hk => by
    rw [bc]
    by_cases e : k = n
    · rw [← e, if_pos h]; omega
    · have := bc_pos h n (by omega); omega
theorem bc_zero {f : Nat → Bool} : ∀ n, bc f n = 0 → ∀ e, e < n → f e = false
  | 0, _, e, he => absurd he (Nat.not_lt_zero e)
  | n + 1, h, e, he => by
    rw [bc] at h
    by_cases c : f n = true
    · rw [if_pos c] at h; omega
    · rw [if_neg c] at h
      by_cases e2 : e = n
      · rw [e2]; simpa using c
      · exact bc_zero n (by omega) e (by omega)
theorem bitc_all : ∀ m, m < 256 → f_J6_bitCount_0f7a4 (nI m) = nI (bc (bt (nI m)) 8) := by decide +kernel
/-- only the first eight bits -/
def B8 (x : Int32) : Prop := ∀ e, 8 ≤ e → bt x e = false
theorem B8_nI {x : Int32} (h : B8 x) : ∃ m, m < 256 ∧ x = nI m := by
  refine ⟨x.toBitVec.toNat, ?_, ?_⟩
  · exact Nat.lt_pow_two_of_testBit (n := 8) _ (fun e he => h e he)
  · apply Int32.toBitVec_inj.mp
    show x.toBitVec = BitVec.ofNat 32 x.toBitVec.toNat
    simp
theorem bitc {x : Int32} (h : B8 x) : f_J6_bitCount_0f7a4 x = nI (bc (bt x) 8) := by
  obtain ⟨m, hm, rfl⟩ := B8_nI h
  exact bitc_all m hm
theorem B8_0 : B8 0 := fun e _ => b_0 e
theorem B8_set {x : Int32} {s : Nat} (h : B8 x) (hs : s < 8) : B8 (x ||| ((1 : Int32) <<< (nI s &&& 31))) := fun e he => by
  by_cases h32 : e < 32
  · rw [bt_set (by omega) h32, h e he, decide_eq_false (by omega)]; rfl
  · exact b_big (by omega)
theorem B8_ext {x y : Int32} (hx : B8 x) (hy : B8 y) (h : ∀ e, e < 8 → bt x e = bt y e) : x = y := b_ext (fun e he => by
  by_cases h8 : e < 8
  · exact h e h8
  · rw [hx e (by omega), hy e (by omega)])
theorem ct3 {x : Int32} {n : Nat} (hn : n < 32) : f_X3_contains x (nI n) = if bt x n = true then 1 else 0 := ct0 hn
theorem nI_sub_lt {a b : Nat} (ha : a ≤ 8) (hb : b ≤ 8) : ((0 : Int32) < nI a - nI b ↔ b < a) ∧ (nI a - nI b = 0 ↔ a = b) := by
  have e : (nI a - nI b).toInt = (a : Int) - b := by
    rw [Int32.toInt_sub, nI_toInt (by omega), nI_toInt (by omega)]
    exact Int.bmod_eq_of_le (by omega) (by omega)
  have e0 : (0 : Int32).toInt = 0 := by decide
  constructor
  · rw [i_lt, e, e0]; omega
  · constructor
    · intro h
      have := congrArg Int32.toInt h
      rw [e, e0] at this; omega
    · intro h; exact i_eq (by rw [e, e0]; omega)
/-! the candidates are entered -/
def cnd (Mm : Mem) (e : Nat) : Bool := decide (e < sn Mm ∧ 0 < kn Mm e)
def offM (Mm : Mem) (e : Nat) : Int64 := gJ Mm 0 (bx Mm e)
def ENT (Mc Mm M : Mem) (i : Nat) : Prop := EC Mc M ∧ gI M 9 = 0 ∧ gI M 10 = 0 ∧ gL M 4 = 0 ∧ gL M 5 = 0 ∧ B8 (gI M 8) ∧ (∀ e, e < 8 → bt (gI M 8) e = (decide (e < i) && cnd Mm e)) ∧
  ∀ e, e < i → cnd Mm e = true → gJ M 0 e = offM Mm e ∧ gJ M 1 e = f_X6_distanceOf Mm e ∧ gJ M 2 e = f_X6_jitterOf Mm e ∧ gJ M 3 e = (gB Mm 1 e).toInt64
theorem EC_VS {Mc M Mm : Mem} {k : Nat} (g : EC Mc M) (v : VS Mc Mm k) : VS M Mm k := VS_mv v (fun i hi => g.1 i (by omega) (by omega) (by omega)) (fun i hi => g.2.1 i (by omega) (by omega)) (fun r hr => g.2.2 r hr) (fun _ _ _ => rfl) (fun _ => rfl)
theorem ENT_0 {Mc Mm : Mem} : ENT Mc Mm (f_X3_clear Mc) 0 := by
  refine ⟨EC_clear, ?_, ?_, ?_, ?_, ?_, fun e he => ?_, fun e he => absurd he (Nat.not_lt_zero e)⟩
  · simp -implicitDefEqProofs (disch := decide) only [f_X3_clear, bnd_e, bnd2_e, gL_eq, gL_ne, gI_eq, gI_ne, gB_eq, gB_ne, gJ_eq, gJ_ne, gL_sI, gI_sL, gI_sB, gI_sJ, gL_sB, gL_sJ, gB_sI, gB_sL, gB_sJ, gJ_sI, gJ_sL, gJ_sB]
  · simp -implicitDefEqProofs (disch := decide) only [f_X3_clear, bnd_e, bnd2_e, gL_eq, gL_ne, gI_eq, gI_ne, gB_eq, gB_ne, gJ_eq, gJ_ne, gL_sI, gI_sL, gI_sB, gI_sJ, gL_sB, gL_sJ, gB_sI, gB_sL, gB_sJ, gJ_sI, gJ_sL, gJ_sB]
  · simp -implicitDefEqProofs (disch := decide) only [f_X3_clear, bnd_e, bnd2_e, gL_eq, gL_ne, gI_eq, gI_ne, gB_eq, gB_ne, gJ_eq, gJ_ne, gL_sI, gI_sL, gI_sB, gI_sJ, gL_sB, gL_sJ, gB_sI, gB_sL, gB_sJ, gJ_sI, gJ_sL, gJ_sB]
  · simp -implicitDefEqProofs (disch := decide) only [f_X3_clear, bnd_e, bnd2_e, gL_eq, gL_ne, gI_eq, gI_ne, gB_eq, gB_ne, gJ_eq, gJ_ne, gL_sI, gI_sL, gI_sB, gI_sJ, gL_sB, gL_sJ, gB_sI, gB_sL, gB_sJ, gJ_sI, gJ_sL, gJ_sB]
  · have e : gI (f_X3_clear Mc) 8 = 0 := by simp -implicitDefEqProofs (disch := decide) only [f_X3_clear, bnd_e, bnd2_e, gL_eq, gL_ne, gI_eq, gI_ne, gB_eq, gB_ne, gJ_eq, gJ_ne, gL_sI, gI_sL, gI_sB, gI_sJ, gL_sB, gL_sJ, gB_sI, gB_sL, gB_sJ, gJ_sI, gJ_sL, gJ_sB]
    rw [e]; exact B8_0
  · have e9 : gI (f_X3_clear Mc) 8 = 0 := by simp -implicitDefEqProofs (disch := decide) only [f_X3_clear, bnd_e, bnd2_e, gL_eq, gL_ne, gI_eq, gI_ne, gB_eq, gB_ne, gJ_eq, gJ_ne, gL_sI, gI_sL, gI_sB, gI_sJ, gL_sB, gL_sJ, gB_sI, gB_sL, gB_sJ, gJ_sI, gJ_sL, gJ_sB]
    rw [e9, b_0, decide_eq_false (Nat.not_lt_zero e), Bool.false_and]
theorem enter_e {M : Mem} {s k : Nat} {t : Int64} (hs : s < 8) (hk : k < 8) : ∃ o d j g : Int64, o = f_X4_bestOffset M k ∧ d = f_X4_distanceAt M k t ∧ j = f_X4_offsetJitter M k ∧ g = (gI M (13 + 4 * k)).toInt64 ∧
    f_X3_enter M (nI s) k t = sI (sJ (sJ (sJ (sJ M 0 (vp_updL (gJ M 0) s o)) 1 (vp_updL (gJ M 1) s d)) 2 (vp_updL (gJ M 2) s j)) 3 (vp_updL (gJ M 3) s g)) 8 (gI M 8 ||| ((1 : Int32) <<< (nI s &&& 31))) := by
  have d1 : ∀ f, f_X4_distanceAt (sJ M 0 f) k t = f_X4_distanceAt M k t := fun f => by
    have c : ∀ r i y m, f_X4_offsetJitter_L27 (sJ M 0 f) k m r i y = f_X4_offsetJitter_L27 M k m r i y := by
      intro r
      induction r with
      | zero => intro i y m; rw [f_X4_offsetJitter_L27, f_X4_offsetJitter_L27]
      | succ r ih =>
        intro i y m
        have g1 : ∀ p, f_X2_get (sJ M 0 f) (4 + 3 * k) p = f_X2_get M (4 + 3 * k) p := fun p => by rw [f_X2_get, f_X2_get, gJ_ne (by omega)]
        rw [f_X4_offsetJitter_L27, f_X4_offsetJitter_L27, gI_sJ, g1]
        simp -implicitDefEqProofs (disch := decide) only [bnd_e, bnd2_e, ih]
    have g1 : ∀ p, f_X2_get (sJ M 0 f) (4 + 3 * k) p = f_X2_get M (4 + 3 * k) p := fun p => by rw [f_X2_get, f_X2_get, gJ_ne (by omega)]
    have g2 : ∀ p, f_X2_get (sJ M 0 f) (5 + 3 * k) p = f_X2_get M (5 + 3 * k) p := fun p => by rw [f_X2_get, f_X2_get, gJ_ne (by omega)]
    have g3 : ∀ p, f_X2_get (sJ M 0 f) (6 + 3 * k) p = f_X2_get M (6 + 3 * k) p := fun p => by rw [f_X2_get, f_X2_get, gJ_ne (by omega)]
    simp -implicitDefEqProofs (disch := decide) only [f_X4_distanceAt, f_X4_bestDelay, f_X4_offsetJitter, bnd_e, bnd2_e, g1, g2, g3, gI_sJ, gL_sJ, c]
  have j1 : ∀ f g, f_X4_offsetJitter (sJ (sJ M 0 f) 1 g) k = f_X4_offsetJitter M k := fun f g => by
    have g1 : ∀ p, f_X2_get (sJ (sJ M 0 f) 1 g) (4 + 3 * k) p = f_X2_get M (4 + 3 * k) p := fun p => by rw [f_X2_get, f_X2_get, gJ_ne (by omega), gJ_ne (by omega)]
    have c : ∀ r i y m, f_X4_offsetJitter_L27 (sJ (sJ M 0 f) 1 g) k m r i y = f_X4_offsetJitter_L27 M k m r i y := by
      intro r
      induction r with
      | zero => intro i y m; rw [f_X4_offsetJitter_L27, f_X4_offsetJitter_L27]
      | succ r ih =>
        intro i y m
        rw [f_X4_offsetJitter_L27, f_X4_offsetJitter_L27, gI_sJ, gI_sJ, g1]
        simp -implicitDefEqProofs (disch := decide) only [bnd_e, bnd2_e, ih]
    simp -implicitDefEqProofs (disch := decide) only [f_X4_offsetJitter, bnd_e, bnd2_e, g1, gI_sJ, c]
  refine ⟨_, _, _, _, rfl, rfl, rfl, rfl, ?_⟩
  simp -implicitDefEqProofs (disch := decide) only [f_X3_enter, f_X4_ownStratum, bnd_e, bnd2_e, put_n hs, d1, j1, gL_eq, gL_ne, gI_eq, gI_ne, gB_eq, gB_ne, gJ_eq, gJ_ne, gL_sI, gI_sL, gI_sB, gI_sJ, gL_sB, gL_sJ, gB_sI, gB_sL, gB_sJ, gJ_sI, gJ_sL, gJ_sB]
theorem ENT_step {Mc Mm M : Mem} {i : Nat} (n : NI Mm) (w : WFm Mm) (h : RR Mc Mm) (hE : ENT Mc Mm M i) (hi : i < sn Mm) (h0 : 0 < kn Mm i) : ENT Mc Mm (f_X3_enter M (nI i) i (f_X6_reading Mm)) (i + 1) := by
  have hi8 : i < 8 := Nat.lt_of_lt_of_le hi (WFs w).1
  have h8 := (WFk w hi8).1
  obtain ⟨g, e9, e10, e4, e5, b8, bb, vv⟩ := hE
  have v := EC_VS g (h.2.2 i hi)
  obtain ⟨o, d, j, st, ho, hd, hj, hg, e⟩ := enter_e (M := M) (t := f_X6_reading Mm) hi8 hi8
  rw [bo_eq v hi8 h8 h0] at ho
  rw [di_eq v hi8 h8 h0 (n.2 i hi).2.1.1] at hd
  rw [ji_eq v hi8 h8 h0] at hj
  rw [v.1] at hg
  have c1 : cnd Mm i = true := decide_eq_true ⟨hi, h0⟩
  have gE : EC M (f_X3_enter M (nI i) i (f_X6_reading Mm)) := EC_enter
  refine ⟨g.tr gE, ?_, ?_, ?_, ?_, ?_, fun q hq => ?_, fun q hq hc => ?_⟩
  · rw [e]; simp -implicitDefEqProofs (disch := decide) only [gL_eq, gL_ne, gI_eq, gI_ne, gB_eq, gB_ne, gJ_eq, gJ_ne, gL_sI, gI_sL, gI_sB, gI_sJ, gL_sB, gL_sJ, gB_sI, gB_sL, gB_sJ, gJ_sI, gJ_sL, gJ_sB]; exact e9
  · rw [e]; simp -implicitDefEqProofs (disch := decide) only [gL_eq, gL_ne, gI_eq, gI_ne, gB_eq, gB_ne, gJ_eq, gJ_ne, gL_sI, gI_sL, gI_sB, gI_sJ, gL_sB, gL_sJ, gB_sI, gB_sL, gB_sJ, gJ_sI, gJ_sL, gJ_sB]; exact e10
  · rw [e]; simp -implicitDefEqProofs (disch := decide) only [gL_eq, gL_ne, gI_eq, gI_ne, gB_eq, gB_ne, gJ_eq, gJ_ne, gL_sI, gI_sL, gI_sB, gI_sJ, gL_sB, gL_sJ, gB_sI, gB_sL, gB_sJ, gJ_sI, gJ_sL, gJ_sB]; exact e4
  · rw [e]; simp -implicitDefEqProofs (disch := decide) only [gL_eq, gL_ne, gI_eq, gI_ne, gB_eq, gB_ne, gJ_eq, gJ_ne, gL_sI, gI_sL, gI_sB, gI_sJ, gL_sB, gL_sJ, gB_sI, gB_sL, gB_sJ, gJ_sI, gJ_sL, gJ_sB]; exact e5
  · rw [e, gI_eq]; exact B8_set b8 hi8
  · rw [e, gI_eq, bt_set (by omega) (by omega), bb q hq]
    by_cases eq : q = i
    · rw [eq, decide_eq_true (show i = i from rfl), Bool.or_true, decide_eq_true (show i < i + 1 by omega), c1]; rfl
    · rw [decide_eq_false eq, Bool.or_false]
      congr 1
      exact decide_eq_decide.mpr (by omega)
  · rw [e]
    simp -implicitDefEqProofs (disch := decide) only [gL_eq, gL_ne, gI_eq, gI_ne, gB_eq, gB_ne, gJ_eq, gJ_ne, gL_sI, gI_sL, gI_sB, gI_sJ, gL_sB, gL_sJ, gB_sI, gB_sL, gB_sJ, gJ_sI, gJ_sL, gJ_sB]
    by_cases eq : q = i
    · rw [eq, updL_eq, updL_eq, updL_eq, updL_eq, ho, hd, hj, hg]
      exact ⟨rfl, rfl, rfl, rfl⟩
    · rw [updL_ne eq, updL_ne eq, updL_ne eq, updL_ne eq]
      exact vv q (by omega) hc
theorem ENT_skip {Mc Mm M : Mem} {i : Nat} (hE : ENT Mc Mm M i) (h0 : ¬ 0 < kn Mm i) : ENT Mc Mm M (i + 1) := by
  obtain ⟨g, e9, e10, e4, e5, b8, bb, vv⟩ := hE
  have c1 : cnd Mm i = false := decide_eq_false (fun q => h0 q.2)
  refine ⟨g, e9, e10, e4, e5, b8, fun q hq => ?_, fun q hq hc => ?_⟩
  · rw [bb q hq]
    by_cases eq : q = i
    · rw [eq, c1, Bool.and_false, Bool.and_false]
    · congr 1
      exact decide_eq_decide.mpr (by omega)
  · by_cases eq : q = i
    · rw [eq, c1] at hc; cases hc
    · exact vv q (by omega) hc
theorem sel5_loop {Mc Mm : Mem} (n : NI Mm) (w : WFm Mm) (h : RR Mc Mm) : ∀ r i M, i + r = 9 → i ≤ sn Mm → ENT Mc Mm M i → ∃ M1, f_X5_select_L17 (f_X6_reading Mm) r i M = f_X3_cluster (f_X3_intersect M1) ∧ ENT Mc Mm M1 (sn Mm) := by
  have hs := (WFs w).1
  intro r
  induction r with
  | zero => intro i M h1 h2; omega
  | succ r ih =>
    intro i M h1 h2 hE
    have hg : gI M 0 = nI (sn Mm) := by rw [hE.1.1 0 (by decide) (by decide) (by decide), h.1.2.2.2.2.2.2.2.2, (WFs w).2]
    rw [f_X5_select_L17, hg]
    by_cases hc : i < sn Mm
    · have hi8 : i < 8 := by omega
      rw [if_pos (nI_lt hc (by omega)), if_pos (show nI i < 8 from nI_lt (b := 8) hi8 (by decide))]
      have ho : f_X5_serverOrNull M (nI i) = some i := by
        rw [f_X5_serverOrNull, hg, if_pos (nI_lt hc (by omega)), opt_some (room_e hi8)]
      rw [opt_some ho, bnd_e, f_X4_kept]
      have hk : gI M (11 + 4 * i) = nI (kn Mm i) := (EC_VS hE.1 (h.2.2 i hc)).2.2.2.2.1
      rw [hk]
      have h8 := (WFk w hi8).1
      by_cases c : 0 < kn Mm i
      · rw [if_pos ((k_pos (by omega)).mpr c), bnd_e]
        exact ih (i + 1) _ (by omega) (by omega) (ENT_step n w h hE hc c)
      · rw [if_neg (fun q => c ((k_pos (by omega)).mp q))]
        exact ih (i + 1) _ (by omega) (by omega) (ENT_skip hE c)
    · have e : i = sn Mm := by omega
      rw [if_neg (fun q => hc (nI_lt8 q (by omega) (by omega)))]
      simp -implicitDefEqProofs (disch := decide) only [bnd_e, bnd2_e]
      subst e
      exact ⟨M, rfl, hE⟩
theorem sel5 {Mc Mm : Mem} (n : NI Mm) (w : WFm Mm) (h : RR Mc Mm) : ∃ M1, f_X5_select Mc = f_X3_cluster (f_X3_intersect M1) ∧ ENT Mc Mm M1 (sn Mm) := by
  rw [f_X5_select, bnd_e, bnd_e, RS_rd h.1]
  exact sel5_loop n w h _ _ _ (by omega) (by omega) ENT_0
