/-! clustering: the class's survivors are the reference's -/
theorem eq0_of {a : Int32} {P : Prop} (h : P ↔ ¬ a = 0) (hn : ¬ P) : a = 0 := Decidable.byContradiction (fun q => hn (h.mpr q))
def SV (Mm M N : Mem) : Prop := ROW Mm M ∧ EQ Mm N ∧ B8 (gI M 10) ∧ (∀ e, e < 8 → (bt (gI M 10) e = true ↔ ¬ gB N 7 e = 0)) ∧ ∀ e, e < 8 → bt (gI M 10) e = true → cnd Mm e = true
theorem SV_cnt {Mm M N : Mem} (h : SV Mm M N) : ∀ i, i ≤ 8 → bc (bt (gI M 10)) i = cntTo N i
  | 0, _ => rfl
  | i + 1, hi => by
    have ih := SV_cnt h i (by omega)
    rw [bc, cntTo, ih]
    by_cases c : bt (gI M 10) i = true
    · rw [if_pos c, if_neg ((h.2.2.2.1 i (by omega)).mp c)]
    · have c0 : gB N 7 i = 0 := eq0_of (h.2.2.2.1 i (by omega)) c
      rw [if_neg c, if_pos c0]
theorem SV_bit {Mm M N : Mem} (h : SV Mm M N) : f_J6_bitCount_0f7a4 (gI M 10) = nI (cnt7 N) := by
  rw [bitc h.2.2.1, SV_cnt h 8 (Nat.le_refl 8), cnt7]
theorem off_N {Mm N : Mem} (h : EQ Mm N) (e : Nat) : gJ N 0 ((f_X6_best N e).toNatClampNeg) = offM Mm e := by
  have : (f_X6_best N e).toNatClampNeg = bx Mm e := by rw [← bx_eq h e, bx]
  rw [this, h.2.2.2, offM]
theorem ab_self {v : Int64} : ab (v - v) = 0 := by rw [Int64.sub_self]; decide
theorem sp_loop {Mm M N : Mem} (h : SV Mm M N) {s : Nat} (hs : s < 8) (hb : bt (gI M 10) s = true) {x2 : Int32} (hx : x2.toInt64 = (f_X6_surviving N).toInt64 - 1) : ∀ r i y, i + r = 9 → i ≤ 8 → f_X3_spread_L22 M (nI s) x2 r i y = f_X6_spread_L5 N s r i y := by
  obtain ⟨hR, hE, b10, hA, hC⟩ := h
  intro r
  induction r with
  | zero => intro i y h1 h2; omega
  | succ r ih =>
    intro i y h1 h2
    rw [f_X3_spread_L22, f_X6_spread_L5]
    by_cases hc : i < 8
    · have h8 : nI i < (8 : Int32) := nI_lt (b := 8) hc (by decide)
      rw [if_pos h8, if_pos h8, bnd_e, ct3 (by omega)]
      by_cases c : bt (gI M 10) i = true
      · rw [if_pos c, if_neg (show ¬ (1 : Int32) = 0 by decide), if_neg ((hA i hc).mp c)]
        rw [bnd_e, bnd_e, bnd_e, bnd_e, get_n hc, get_n hs, (hR.2.2 i hc (hC i hc c)).1, (hR.2.2 s hs (hC s hs hb)).1]
        have ea : (if 0 < offM Mm i - offM Mm s then offM Mm i - offM Mm s else -(offM Mm i - offM Mm s)) = ab (offM Mm i - offM Mm s) := by rw [ab]
        rw [ea]
        by_cases e : i = s
        · rw [if_pos (by rw [e]), bnd_e, e, ab_self]
          exact ih _ _ (by omega) (by omega)
        · rw [if_neg (fun q => e ((nI_eq (by omega) (by omega)).mp q)), bnd_e, bnd_e, bnd_e, bnd_e, off_N hE, off_N hE, ab_size]
          exact ih _ _ (by omega) (by omega)
      · have c0 : gB N 7 i = 0 := eq0_of (hA i hc) c
        rw [if_neg c, if_pos rfl, if_pos c0, bnd_e, Int64.add_zero]
        exact ih _ _ (by omega) (by omega)
    · have e : i = 8 := by omega
      subst e
      rw [if_neg (by decide), if_neg (by decide), bnd_e, hx]
theorem sp_eq {Mm M N : Mem} (h : SV Mm M N) (h3 : 3 < cnt7 N) {s : Nat} (hs : s < 8) (hb : bt (gI M 10) s = true) : f_X3_spread M (nI s) = f_X6_spread N s := by
  have hle := cntTo_le N 8
  have hle : cnt7 N ≤ 8 := hle
  have e1 : nI (cnt7 N) - 1 = nI (cnt7 N - 1) := pk_sub (a := cnt7 N) (b := 1) (by omega)
  rw [f_X3_spread, f_X6_spread, bnd_e, bnd_e, SV_bit h]
  have hn : ¬ nI (cnt7 N) - 1 < 1 := fun q => by
    rw [e1] at q
    have := (nI_ltI (b := 1) (by omega) (by decide)).mp q
    omega
  rw [if_neg hn]
  exact sp_loop h hs hb (by rw [surv_spec, n1_64 (by omega) hle]) _ _ _ (by omega) (by omega)
/-- the widest so far -/
def wst (M : Mem) : Nat → Int32
  | 0 => -1
  | i + 1 => if bt (gI M 10) i = true then (if wst M i = -1 then nI i else if f_X3_spread M (nI i) < f_X3_spread M (wst M i) then wst M i else nI i) else wst M i
def jsf (M : Mem) : Nat → Int32 × Int64
  | 0 => (0, 0)
  | i + 1 => if bt (gI M 10) i = true then (if (jsf M i).1 = 0 then (1, gJ M 2 i) else if gJ M 2 i < (jsf M i).2 then (1, gJ M 2 i) else ((jsf M i).1, (jsf M i).2)) else jsf M i
theorem ws_loop {M : Mem} : ∀ r i, i + r = 9 → i ≤ 8 → f_X3_widestSpread_L4 M r i (wst M i) = wst M 8 := by
  intro r
  induction r with
  | zero => intro i h1 h2; omega
  | succ r ih =>
    intro i h1 h2
    rw [f_X3_widestSpread_L4]
    by_cases hc : i < 8
    · rw [if_pos (show nI i < 8 from nI_lt (b := 8) hc (by decide)), bnd_e, ct3 (by omega)]
      have I := ih (i + 1) (by omega) (by omega)
      rw [wst] at I
      by_cases c : bt (gI M 10) i = true
      · rw [if_pos c, if_neg (show ¬ (1 : Int32) = 0 by decide)]
        rw [if_pos c] at I
        by_cases d : wst M i = -1
        · rw [if_pos d]; rw [if_pos d] at I; exact I
        · rw [if_neg d, bnd_e, bnd_e]
          rw [if_neg d] at I
          by_cases f : f_X3_spread M (nI i) < f_X3_spread M (wst M i)
          · rw [if_pos f]; rw [if_pos f] at I; exact I
          · rw [if_neg f]; rw [if_neg f] at I; exact I
      · rw [if_neg c, if_pos rfl]
        rw [if_neg c] at I
        exact I
    · have e : i = 8 := by omega
      subst e
      rw [if_neg (by decide)]
theorem ws_e {M : Mem} : f_X3_widestSpread M = wst M 8 := by
  simp -implicitDefEqProofs (disch := decide) only [f_X3_widestSpread, bnd_e, bnd2_e]
  exact ws_loop _ 0 (by omega) (by omega)
theorem lj_loop {M : Mem} : ∀ r i, i + r = 9 → i ≤ 8 → f_X3_leastJitter_L7 M r i (jsf M i).1 (jsf M i).2 = (jsf M 8).2 := by
  intro r
  induction r with
  | zero => intro i h1 h2; omega
  | succ r ih =>
    intro i h1 h2
    rw [f_X3_leastJitter_L7]
    by_cases hc : i < 8
    · rw [if_pos (show nI i < 8 from nI_lt (b := 8) hc (by decide)), bnd_e, ct3 (by omega)]
      have I := ih (i + 1) (by omega) (by omega)
      rw [jsf] at I
      by_cases c : bt (gI M 10) i = true
      · rw [if_pos c, if_neg (show ¬ (1 : Int32) = 0 by decide)]
        rw [if_pos c] at I
        by_cases d : (jsf M i).1 = 0
        · rw [if_pos d, bnd_e, get_n hc]; rw [if_pos d] at I; exact I
        · rw [if_neg d, bnd_e, get_n hc]
          rw [if_neg d] at I
          by_cases f : gJ M 2 i < (jsf M i).2
          · rw [if_pos f, bnd_e]; rw [if_pos f] at I; exact I
          · rw [if_neg f]; rw [if_neg f] at I; exact I
      · rw [if_neg c, if_pos rfl]
        rw [if_neg c] at I
        exact I
    · have e : i = 8 := by omega
      subst e
      rw [if_neg (by decide)]
theorem lj_e {M : Mem} : f_X3_leastJitter M = (jsf M 8).2 := by
  rw [f_X3_leastJitter]
  exact lj_loop _ 0 (by omega) (by omega)
theorem wst_at {M : Mem} : ∀ i, i ≤ 8 → (wst M i = -1 ∧ ∀ e, e < i → bt (gI M 10) e = false) ∨ ∃ s, s < i ∧ bt (gI M 10) s = true ∧ wst M i = nI s
  | 0, _ => Or.inl ⟨rfl, fun e he => absurd he (Nat.not_lt_zero e)⟩
  | i + 1, hi => by
    have ih := wst_at (M := M) i (by omega)
    rw [wst]
    by_cases c : bt (gI M 10) i = true
    · rw [if_pos c]
      right
      by_cases d : wst M i = -1
      · rw [if_pos d]; exact ⟨i, by omega, c, rfl⟩
      · rw [if_neg d]
        rcases ih with ⟨q, -⟩ | ⟨s, s1, s2, s3⟩
        · exact absurd q d
        · split
          · exact ⟨s, by omega, s2, s3⟩
          · exact ⟨i, by omega, c, rfl⟩
    · rw [if_neg c]
      rcases ih with ⟨q1, q2⟩ | ⟨s, s1, s2, s3⟩
      · left
        refine ⟨q1, fun e he => ?_⟩
        by_cases ee : e = i
        · rw [ee]; simpa using c
        · exact q2 e (by omega)
      · right; exact ⟨s, by omega, s2, s3⟩
theorem nI_m1 {s : Nat} (hs : s < 8) : ¬ nI s = -1 := fun q => by
  have := congrArg Int32.toInt q
  rw [nI_toInt (by omega), show (-1 : Int32).toInt = -1 by decide] at this
  omega
/-- the reference's mark of the first jitter, and the class's -/
def JS (j : Int32 × Int64) (y4 : Int32) (y2 : Int64) : Prop := (j.1 = 0 ∧ y4 = 1) ∨ (j.1 = 1 ∧ y4 = 0 ∧ j.2 = y2)
theorem rm_loop {Mm M N : Mem} (h : SV Mm M N) (h3 : 3 < cnt7 N) : ∀ r i y4 y2, i + r = 9 → i ≤ 8 → JS (jsf M i) y4 y2 → ∃ y4' y2', JS (jsf M 8) y4' y2' ∧
    f_X6_removes_L10 N r i y4 y2 (wst M i) = if y2' < f_X6_spread N (wst M 8).toNatClampNeg then (1, sB N 7 (upd (gB N 7) (wst M 8).toNatClampNeg 0)) else (0, N) := by
  obtain ⟨hR, hE, b10, hA, hC⟩ := id h
  intro r
  induction r with
  | zero => intro i y4 y2 h1 h2; omega
  | succ r ih =>
    intro i y4 y2 h1 h2 hJ
    rw [f_X6_removes_L10]
    by_cases hc : i < 8
    · rw [if_pos (show nI i < 8 from nI_lt (b := 8) hc (by decide))]
      by_cases c : bt (gI M 10) i = true
      · have hcn := hC i hc c
        have ej : f_X6_jitterOf N i = gJ M 2 i := by rw [jit_eq hE, (hR.2.2 i hc hcn).2.2.1]
        have e1 : jsf M (i + 1) = if (jsf M i).1 = 0 then (1, gJ M 2 i) else if gJ M 2 i < (jsf M i).2 then (1, gJ M 2 i) else ((jsf M i).1, (jsf M i).2) := by rw [jsf, if_pos c]
        -- what becomes of the jitter, whatever becomes of the widest
        have go : ∀ wv : Int32, wst M (i + 1) = wv → ∃ y4' y2', JS (jsf M 8) y4' y2' ∧ (if y4 = 0 then (if f_X6_jitterOf N i < y2 then f_X6_removes_L10 N r (i + 1) 0 (f_X6_jitterOf N i) wv else f_X6_removes_L10 N r (i + 1) 0 y2 wv) else f_X6_removes_L10 N r (i + 1) 0 (f_X6_jitterOf N i) wv) = if y2' < f_X6_spread N (wst M 8).toNatClampNeg then (1, sB N 7 (upd (gB N 7) (wst M 8).toNatClampNeg 0)) else (0, N) := by
          intro wv hw
          subst hw
          rw [ej]
          rcases hJ with ⟨j1, j2⟩ | ⟨j1, j2, j3⟩
          · rw [if_neg (by rw [j2]; decide)]
            exact ih (i + 1) _ _ (by omega) (by omega) (by rw [e1, if_pos j1]; exact Or.inr ⟨rfl, rfl, rfl⟩)
          · rw [if_pos j2, ← j3]
            have jn : ¬ (jsf M i).1 = 0 := by rw [j1]; decide
            by_cases f : gJ M 2 i < (jsf M i).2
            · rw [if_pos f]
              exact ih (i + 1) _ _ (by omega) (by omega) (by rw [e1, if_neg jn, if_pos f]; exact Or.inr ⟨rfl, rfl, rfl⟩)
            · rw [if_neg f]
              exact ih (i + 1) _ _ (by omega) (by omega) (by rw [e1, if_neg jn, if_neg f]; exact Or.inr ⟨j1, rfl, rfl⟩)
        rw [if_neg ((hA i hc).mp c)]
        rcases wst_at (M := M) i (by omega) with ⟨q1, -⟩ | ⟨s, s1, s2, s3⟩
        · rw [if_pos q1]
          have ew : wst M (i + 1) = nI i := by rw [wst, if_pos c, if_pos q1]
          simp -implicitDefEqProofs (disch := decide) only [bnd_e, bnd2_e]
          exact go (nI i) ew
        · rw [if_neg (by rw [s3]; exact nI_m1 (by omega))]
          have d1 := sp_eq h h3 hc c
          have d2 := sp_eq h h3 (s := s) (by omega) s2
          have ew : wst M (i + 1) = if f_X6_spread N i < f_X6_spread N s then wst M i else nI i := by
            rw [wst, if_pos c, if_neg (by rw [s3]; exact nI_m1 (by omega)), s3, d1, d2]
          simp -implicitDefEqProofs (disch := decide) only [bnd_e, bnd2_e]
          rw [show (wst M i).toNatClampNeg = s by rw [s3, nI_clamp (by omega)]]
          by_cases f : f_X6_spread N i < f_X6_spread N s
          · rw [if_pos f]; rw [if_pos f] at ew; exact go _ ew
          · rw [if_neg f]; rw [if_neg f] at ew; exact go _ ew
      · have c0 : gB N 7 i = 0 := eq0_of (hA i hc) c
        have ew : wst M (i + 1) = wst M i := by rw [wst, if_neg c]
        rw [if_pos c0, ← ew]
        exact ih (i + 1) _ _ (by omega) (by omega) (by rw [jsf, if_neg c]; exact hJ)
    · have e : i = 8 := by omega
      subst e
      rw [if_neg (by decide), bnd_e]
      exact ⟨y4, y2, hJ, by simp -implicitDefEqProofs (disch := decide) only [bnd_e, bnd2_e]⟩
theorem jsf_some {M : Mem} {k : Nat} (hb : bt (gI M 10) k = true) : ∀ i, k < i → (jsf M i).1 = 1
  | 0, hk => absurd hk (Nat.not_lt_zero k)
  | i + 1, hk => by
    rw [jsf]
    by_cases c : bt (gI M 10) i = true
    · rw [if_pos c]
      by_cases d : (jsf M i).1 = 0
      · rw [if_pos d]
      · rw [if_neg d]
        by_cases f : gJ M 2 i < (jsf M i).2
        · rw [if_pos f]
        · rw [if_neg f]
          have : (jsf M i).1 = 1 := by
            by_cases e : k = i
            · -- k = i: the mark of before
              have g : ∀ q, (jsf M q).1 = 0 ∨ (jsf M q).1 = 1 := by
                intro q
                induction q with
                | zero => exact Or.inl rfl
                | succ q ih =>
                  rw [jsf]
                  split
                  · split
                    · exact Or.inr rfl
                    · split
                      · exact Or.inr rfl
                      · exact ih
                  · exact ih
              rcases g i with q | q
              · exact absurd q d
              · exact q
            · exact jsf_some hb i (by omega)
          exact this
    · rw [if_neg c]
      by_cases e : k = i
      · rw [e] at hb; exact absurd hb c
      · exact jsf_some hb i (by omega)
/-- the bit goes -/
theorem bt_clr {x : Int32} {s e : Nat} (hs : s < 32) (he : e < 32) : bt (x &&& (((1 : Int32) <<< (nI s &&& 31)) ^^^ (-1 : Int32))) e = (bt x e && !decide (e = s)) := by
  rw [b_and, b_xor, b_m1 e he, b_shl s hs 1 he]
  congr 1
  by_cases h : s ≤ e
  · rw [b_one (e - s) (by omega), decide_eq_true h, Bool.true_and]
    by_cases e2 : e = s
    · rw [decide_eq_true e2, decide_eq_true (by omega)]; rfl
    · rw [decide_eq_false e2, decide_eq_false (by omega)]; rfl
  · rw [decide_eq_false h, Bool.false_and, decide_eq_false (by omega)]; rfl
theorem L32_0 {r i : Nat} {N : Mem} : f_X6_select_L32 r i N 0 = N := by
  cases r with
  | zero => rw [f_X6_select_L32]
  | succ r => rw [f_X6_select_L32, if_pos rfl]
theorem clu_loop {Mm : Mem} : ∀ r i M N, i + r = 9 → i ≤ 8 → cnt7 N + i ≤ 8 → SV Mm M N → SV Mm (f_X3_cluster_L10 r i M) (f_X6_select_L32 (r + 1) i N 1) ∧ gI (f_X3_cluster_L10 r i M) 9 = gI M 9 ∧ gL (f_X3_cluster_L10 r i M) 4 = gL M 4 ∧ gL (f_X3_cluster_L10 r i M) 5 = gL M 5 := by
  intro r
  induction r with
  | zero => intro i M N h1 h2; omega
  | succ r ih =>
    intro i M N h1 h2 h8 h
    obtain ⟨hR, hE, b10, hA, hC⟩ := id h
    rw [f_X3_cluster_L10, f_X6_select_L32, if_neg (show ¬ (1 : Int32) = 0 by decide)]
    by_cases hi : i < 8
    · simp -implicitDefEqProofs (disch := decide) only [bnd_e, bnd2_e, if_pos (show nI i < 8 from nI_lt (b := 8) hi (by decide)), SV_bit h, surv_spec]
      by_cases h3 : 3 < cnt7 N
      · have g3 : (3 : Int32) < nI (cnt7 N) := (three_lt (by omega)).mpr h3
        simp -implicitDefEqProofs (disch := decide) only [if_pos g3]
        rw [ws_e, lj_e]
        obtain ⟨y4', y2', hJ, hr⟩ := rm_loop h h3 (8 + 1 - 0) 0 1 0 (by omega) (by omega) (Or.inl ⟨rfl, rfl⟩)
        have er : f_X6_removes N = if y2' < f_X6_spread N (wst M 8).toNatClampNeg then (1, sB N 7 (upd (gB N 7) (wst M 8).toNatClampNeg 0)) else (0, N) := by
          rw [f_X6_removes]
          exact hr
        -- there is a survivor
        obtain ⟨k, k8, kb⟩ := cntTo_ex (M := N) (i := 8) (show 0 < cnt7 N by omega)
        have kt : bt (gI M 10) k = true := (hA k k8).mpr kb
        have j1 := jsf_some kt 8 k8
        have ey : (jsf M 8).2 = y2' := by
          rcases hJ with ⟨q, -⟩ | ⟨-, -, q⟩
          · rw [j1] at q; exact absurd q (by decide)
          · exact q
        rcases wst_at (M := M) 8 (Nat.le_refl 8) with ⟨-, q⟩ | ⟨s, s1, s2, s3⟩
        · rw [q k k8] at kt; cases kt
        · have es : (wst M 8).toNatClampNeg = s := by rw [s3, nI_clamp (by omega)]
          rw [er, es, s3, sp_eq h h3 s1 s2, ey]
          by_cases f : y2' < f_X6_spread N s
          · simp -implicitDefEqProofs (disch := decide) only [if_pos f]
            have hd := cnt_drop (M := N) s1 ((hA s s1).mp s2)
            have hS' : SV Mm (sI M 10 (gI M 10 &&& (((1 : Int32) <<< (nI s &&& 31)) ^^^ (-1 : Int32)))) (sB N 7 (upd (gB N 7) s 0)) := by
              refine ⟨ROW_mv hR (gI_ne (by decide)) (fun _ _ => gJ_sI), hE.tr (EQ_sB (by omega)), ?_, fun e he => ?_, fun e he hb => ?_⟩
              · rw [gI_eq]
                intro e he
                by_cases e32 : e < 32
                · rw [bt_clr (by omega) e32, b10 e he]; rfl
                · exact b_big (by omega)
              · rw [gI_eq, bt_clr (by omega) (by omega), gB_eq]
                by_cases ee : e = s
                · rw [ee, upd_eq, decide_eq_true (show s = s from rfl)]
                  exact ⟨fun q => by simp at q, fun q => absurd rfl q⟩
                · rw [upd_ne ee, decide_eq_false ee]
                  simp only [Bool.not_false, Bool.and_true]
                  exact hA e he
              · rw [gI_eq, bt_clr (by omega) (by omega)] at hb
                exact hC e he (Bool.and_eq_true_iff.mp hb).1
            have I := ih (i + 1) _ _ (by omega) (by omega) (by omega) hS'
            refine ⟨I.1, I.2.1.trans (gI_ne (by decide)), I.2.2.1.trans gL_sI, I.2.2.2.trans gL_sI⟩
          · simp -implicitDefEqProofs (disch := decide) only [if_neg f]
            rw [L32_0]
            exact ⟨h, by trivial, by trivial, by trivial⟩
      · have g3 : ¬ (3 : Int32) < nI (cnt7 N) := fun q => h3 ((three_lt (by omega)).mp q)
        simp -implicitDefEqProofs (disch := decide) only [if_neg g3]
        exact ⟨h, by trivial, by trivial, by trivial⟩
    · have e : i = 8 := by omega
      subst e
      have c0 : cnt7 N = 0 := by omega
      rw [if_neg (by decide), bnd_e, surv_spec, c0, if_neg (by decide)]
      exact ⟨h, by trivial, by trivial, by trivial⟩
/-- behind both selections -/
def SEL (Mc Mm M N : Mem) : Prop := EC Mc M ∧ EQ Mm N ∧ SV Mm M N ∧ B8 (gI M 9) ∧ (∀ e, e < 8 → (bt (gI M 9) e = true ↔ ¬ gB N 6 e = 0)) ∧
  f_J6_bitCount_0f7a4 (gI M 9) = gI N 8 ∧ f_J6_bitCount_0f7a4 (gI M 8) = gI N 7 ∧ (gI M 8 = 0 ↔ gI N 7 = 0) ∧ (¬ gI N 7 = 0 → gL M 4 = gL N 4 ∧ gL M 5 = gL N 5)
theorem sel_both {Mc Mm : Mem} (n : NI Mm) (w : WFm Mm) (h : RR Mc Mm) : SEL Mc Mm (f_X5_select Mc) (f_X6_select Mm) := by
  obtain ⟨M1, e1, hENT⟩ := sel5 n w h
  obtain ⟨i1, i2, -, i4, i5, i6, i7, i8, i9, i10, i11⟩ := cint n w hENT
  obtain ⟨M2, e2, k2, h7⟩ := sel_start (M := Mm)
  have hK := (sel_ok n w).1
  have eC : f_X5_select Mc = f_X3_cluster_L10 (8 + 1 - 0) 0 (sI (f_X3_intersect M1) 10 (gI (f_X3_intersect M1) 9)) := by rw [e1, f_X3_cluster, bnd_e]
  have hS : SV Mm (sI (f_X3_intersect M1) 10 (gI (f_X3_intersect M1) 9)) M2 := by
    refine ⟨ROW_mv i2 (gI_ne (by decide)) (fun _ _ => gJ_sI), i4.tr k2.1, by rw [gI_eq]; exact i5, fun e he => ?_, fun e he hb => ?_⟩
    · rw [gI_eq, h7 e he]; exact i6 e he
    · rw [gI_eq] at hb; exact i7 e he hb
  have hle := cntTo_le M2 8
  obtain ⟨L1, L2, L3, L4⟩ := clu_loop (8 + 1 - 0) 0 _ M2 (by omega) (by omega) (by show cntTo M2 8 + 0 ≤ 8; omega) hS
  rw [← eC] at L1 L2 L3 L4
  have e2' : f_X6_select Mm = f_X6_select_L32 (8 + 1 - 0 + 1) 0 M2 1 := e2
  rw [← e2'] at L1
  have E5 : EC Mc (f_X5_select Mc) := EC_select
  have g9 : gI (f_X5_select Mc) 9 = gI (f_X3_intersect M1) 9 := L2.trans (gI_ne (by decide))
  have g4 : gL (f_X5_select Mc) 4 = gL (f_X3_intersect M1) 4 := L3.trans gL_sI
  have g5 : gL (f_X5_select Mc) 5 = gL (f_X3_intersect M1) 5 := L4.trans gL_sI
  have g8 : gI (f_X5_select Mc) 8 = gI (f_X3_intersect M1) 8 := B8_ext L1.1.1 i2.1 (fun e he => by rw [L1.1.2.1 e he, i2.2.1 e he])
  refine ⟨E5, L1.2.1, L1, by rw [g9]; exact i5, fun e he => ?_, ?_, ?_, ?_, fun hne => ?_⟩
  · rw [g9, hK.2.2.2.2.2.2]; exact i6 e he
  · rw [g9, i8, hK.2.2.2.1]
  · rw [g8, i9, hK.2.2.1]
  · rw [g8, hK.2.2.1]; exact i10
  · rw [hK.2.2.1] at hne
    rw [g4, g5, hK.2.2.2.2.1, hK.2.2.2.2.2.1]
    exact i11 hne
