/-! facts for the walks of holds and acts -/
theorem bit_v {x : Int32} {n : Nat} (hn : n < 32) : ((x >>> (nI n &&& 31)) &&& 1) = if bt x n = true then 1 else 0 := by
  by_cases c : bt x n = true
  · rw [if_pos c]
    refine b_ext (fun i hi => ?_)
    rw [b_and, b_one i hi]
    by_cases e : i = 0
    · subst e
      rw [b_sshr n hn x (by omega), if_pos (by omega), Nat.add_zero, c]
      decide
    · rw [decide_eq_false e, Bool.and_false]
  · rw [if_neg c]
    exact (bit_0 hn).mpr (by simpa using c)
theorem bit_1 {x : Int32} {n : Nat} (hn : n < 32) : ((x >>> (nI n &&& 31)) &&& 1) = 1 ↔ bt x n = true := by
  rw [bit_v hn]
  by_cases c : bt x n = true
  · rw [if_pos c]; exact ⟨fun _ => c, fun _ => rfl⟩
  · rw [if_neg c]; exact ⟨fun q => absurd q (by decide), fun q => absurd q c⟩
theorem cn_add1 {f : Nat → Bool} {i : Nat} (h : f i = true) : nI (bc f i) + 1 = nI (bc f (i + 1)) := by rw [bc, if_pos h]; exact nI_1 _
theorem cn_add0 {f : Nat → Bool} {i : Nat} (h : f i = false) : nI (bc f i) + 0 = nI (bc f (i + 1)) := by rw [bc, if_neg (by rw [h]; decide), Int32.add_zero, Nat.add_zero]
theorem bc_cut {f : Nat → Bool} {n : Nat} : ∀ m, n ≤ m → (∀ e, n ≤ e → e < m → f e = false) → bc f n = bc f m
  | 0, h, _ => by rw [show n = 0 by omega]
  | m + 1, h, g => by
    by_cases e : n = m + 1
    · rw [e]
    · rw [bc, if_neg (by rw [g m (by omega) (by omega)]; decide), Nat.add_zero]
      exact bc_cut m (by omega) (fun q h1 h2 => g q h1 (by omega))
section FA
variable {Mm M : Mem} {t : Int32}
theorem cnd_hi {e : Nat} (h : sn Mm ≤ e) : cnd Mm e = false := by rw [cnd, decide_eq_false (fun q => by omega)]
theorem ag_hi (g : CL Mm t M) {e : Nat} (h : sn Mm ≤ e) (he : e < 8) : agF Mm e = false := by
  by_cases c : agF Mm e = true
  · have := ag_cnd g he c
    rw [cnd_hi h] at this; cases this
  · simpa using c
theorem sv_hi (g : CL Mm t M) {e : Nat} (h : sn Mm ≤ e) (he : e < 8) : svF Mm e = false := by
  by_cases c : svF Mm e = true
  · have := sv_cnd g he c
    rw [cnd_hi h] at this; cases this
  · simpa using c
theorem bcn_c (g : CL Mm t M) : bc (cnd Mm) (sn Mm) = CN Mm := bc_cut 8 g.s8 (fun e h _ => cnd_hi h)
theorem bcn_a (g : CL Mm t M) : bc (agF Mm) (sn Mm) = AN Mm := bc_cut 8 g.s8 (fun e h he => ag_hi g h he)
theorem bcn_s (g : CL Mm t M) : bc (svF Mm) (sn Mm) = SN Mm := bc_cut 8 g.s8 (fun e h he => sv_hi g h he)
theorem sub_0 (g : CL Mm t M) : (svS Mm &&& (agS Mm ^^^ ((-1) : Int32))) = 0 := by
  obtain ⟨a8, ab⟩ := agS_bit g
  obtain ⟨s8, sb⟩ := svS_bit g
  refine b_ext (fun i hi => ?_)
  rw [b_and, b_xor, b_m1 i hi, b_0]
  by_cases c : i < 8
  · rw [ab i c, sb i c]
    by_cases d : svF Mm i = true
    · rw [d, (clus_all g).2.2 i c d]; decide
    · rw [show svF Mm i = false by simpa using d, Bool.false_and]
  · rw [s8 i (by omega), Bool.false_and]
theorem shr_0 (g : CL Mm t M) : (agS Mm >>> (nI (sn Mm) &&& 31)) = 0 := by
  obtain ⟨a8, ab⟩ := agS_bit g
  have h8 := g.s8
  refine b_ext (fun i hi => ?_)
  rw [b_sshr (sn Mm) (by omega) _ hi, b_0]
  by_cases c : sn Mm + i < 32
  · rw [if_pos c]
    by_cases d : sn Mm + i < 8
    · rw [ab _ d]; exact ag_hi g (by omega) d
    · exact a8 _ (by omega)
  · rw [if_neg c]; exact a8 31 (by omega)
theorem ag_of (g : CL Mm t M) {i : Nat} (h : i < sn Mm) : ((agS Mm >>> (nI i &&& 31)) &&& 1) = 1 ↔ agF Mm i = true := by
  have h8 := g.s8
  rw [bit_1 (by omega), (agS_bit g).2 i (by omega)]
theorem sv_of (g : CL Mm t M) {i : Nat} (h : i < sn Mm) : ((svS Mm >>> (nI i &&& 31)) &&& 1) = 1 ↔ svF Mm i = true := by
  have h8 := g.s8
  rw [bit_1 (by omega), (svS_bit g).2 i (by omega)]
theorem st_add (g : CL Mm t M) {i : Nat} (h : i < sn Mm) : nI (bc (svF Mm) i) + ((svS Mm >>> (nI i &&& 31)) &&& 1) = nI (bc (svF Mm) (i + 1)) := by
  have h8 := g.s8
  rw [bit_v (by omega), (svS_bit g).2 i (by omega)]
  by_cases c : svF Mm i = true
  · rw [if_pos c]; exact cn_add1 c
  · rw [if_neg c]; exact cn_add0 (by simpa using c)
theorem bcf {b : Bool} (h : ¬ b = true) : b = false := by simpa using h
theorem cnd_of {i : Nat} (h : i < sn Mm) (hk : 0 < kn Mm i) : cnd Mm i = true := decide_eq_true ⟨h, hk⟩
theorem cnd_no {i : Nat} (hk : ¬ 0 < kn Mm i) : cnd Mm i = false := decide_eq_false (fun q => hk q.2)
theorem kn_pos (g : CL Mm t M) {i : Nat} (h : i < sn Mm) : (0 : Int32) < nI (kn Mm i) ↔ 0 < kn Mm i := by
  have h8 := (WFk g.2.2.1 (Nat.lt_of_lt_of_le h g.s8)).1
  exact k_pos (by omega)
theorem CN_ne {i : Nat} (hi : i < 8) (h : cnd Mm i = true) : ¬ CN Mm = 0 := fun q => by rw [none_cn q hi] at h; cases h
theorem ends_e {i : Nat} (hk : 0 < kn Mm i) : oA Mm i - tA Mm i = f_X6_from Mm i ∧ oA Mm i + tA Mm i = f_X6_to Mm i := by
  rw [oA, tA, if_pos hk, if_pos hk, from_e, to_e, offM]
  exact ⟨rfl, rfl⟩
theorem hl_1 (g : CL Mm t M) {i : Nat} (h : i < sn Mm) (hk : 0 < kn Mm i) (ha : agF Mm i = true) : ¬ loA Mm < oA Mm i - tA Mm i ∧ ¬ oA Mm i + tA Mm i < loA Mm ∧ ¬ hiA Mm < oA Mm i - tA Mm i ∧ ¬ oA Mm i + tA Mm i < hiA Mm := by
  have h8 := Nat.lt_of_lt_of_le h g.s8
  have hc := CN_ne h8 (cnd_of h hk)
  obtain ⟨e1, e2⟩ := ends_e hk
  rw [e1, e2, loA, if_neg hc, hiA, if_neg hc]
  have a := ((inter_all g).1 i h8).mp ha
  have b := ag_high g h8 ha
  exact ⟨a.2.1, a.2.2, b.1, b.2⟩
theorem hl_0 (g : CL Mm t M) {i : Nat} (h : i < sn Mm) (hk : 0 < kn Mm i) (ha : agF Mm i = false) (hn : ¬ loA Mm < oA Mm i - tA Mm i) : oA Mm i + tA Mm i < loA Mm := by
  have h8 := Nat.lt_of_lt_of_le h g.s8
  have hcn := cnd_of h hk
  have hc := CN_ne h8 hcn
  obtain ⟨e1, e2⟩ := ends_e hk
  rw [e1, loA, if_neg hc] at hn
  rw [e2, loA, if_neg hc]
  refine Decidable.byContradiction (fun q => ?_)
  have := ((inter_all g).1 i h8).mpr ⟨hcn, hn, q⟩
  rw [ha] at this; cases this
theorem nn_3 (g : CL Mm t M) {i : Nat} (h : i < sn Mm) (hk : 0 < kn Mm i) : ¬ dA Mm i < 0 ∧ ¬ jA Mm i < 0 ∧ ¬ tA Mm i < jA Mm i := by
  obtain ⟨a, b, c⟩ := dist_jit g h hk
  have z : (0 : Int64).toInt = 0 := by decide
  rw [dA, jA, tA, if_pos hk, if_pos hk, if_pos hk, l_lt, l_lt, l_lt, z]
  omega
/-! no candidate -/
theorem none_ag (g : CL Mm t M) (hc : CN Mm = 0) : AN Mm = 0 := by
  rcases Nat.eq_zero_or_pos (AN Mm) with q | q
  · exact q
  · exfalso
    have hb : ∀ e, e < 8 → agF Mm e = false := fun e he => bcf (fun c => by have := ag_cnd g he c; rw [none_cn hc he] at this; cases this)
    have : AN Mm = bc (fun _ => false) 8 := bc_congr 8 hb
    rw [this] at q
    exact absurd q (by decide)
theorem agS_0 (g : CL Mm t M) (hc : CN Mm = 0) : agS Mm = 0 := by
  obtain ⟨a8, ab⟩ := agS_bit g
  refine B8_ext a8 B8_0 (fun e he => ?_)
  rw [ab e he, b_0]
  exact bcf (fun c => by have := ag_cnd g he c; rw [none_cn hc he] at this; cases this)
theorem svS_0 (g : CL Mm t M) (hc : CN Mm = 0) : svS Mm = 0 := by
  obtain ⟨a8, ab⟩ := svS_bit g
  refine B8_ext a8 B8_0 (fun e he => ?_)
  rw [ab e he, b_0]
  exact bcf (fun c => by have := sv_cnd g he c; rw [none_cn hc he] at this; cases this)
theorem CN_z (q : nI (CN Mm) = 0) : CN Mm = 0 := by
  have := CN_le Mm
  exact (nI_eq (a := CN Mm) (b := 0) (by omega) (by decide)).mp q
theorem mj_1 (c : nI (CN Mm) < (2 : Int32) * nI (AN Mm)) : mjV Mm = 1 := by
  have h1 := AN_le Mm
  have h2 := CN_le Mm
  rw [mul2_nI] at c
  rw [mjV, if_pos ((nI_ltI (by omega) (by omega)).mp c)]
theorem mj_0 (c : ¬ nI (CN Mm) < (2 : Int32) * nI (AN Mm)) : mjV Mm = 0 := by
  have h1 := AN_le Mm
  have h2 := CN_le Mm
  rw [mul2_nI] at c
  rw [mjV, if_neg (fun q => c ((nI_ltI (by omega) (by omega)).mpr q))]
theorem an_1 (g : CL Mm t M) (hc : ¬ CN Mm = 0) : ¬ nI (AN Mm) < (1 : Int32) ∧ ¬ nI (SN Mm) < (1 : Int32) := by
  have h1 := AN_le Mm
  have h2 := SN_le Mm
  have := pos_counts g hc
  exact ⟨fun q => by have := (nI_ltI (a := AN Mm) (b := 1) (by omega) (by decide)).mp q; omega, fun q => by have := (nI_ltI (a := SN Mm) (b := 1) (by omega) (by decide)).mp q; omega⟩
theorem an_3 (g : CL Mm t M) (c : (3 : Int32) < nI (AN Mm)) : ¬ nI (SN Mm) < (3 : Int32) := by
  have h1 := AN_le Mm
  have h2 := SN_le Mm
  have := (clus_all g).1 ((three_lt (by omega)).mp c)
  exact fun q => by have := (nI_ltI (a := SN Mm) (b := 3) (by omega) (by decide)).mp q; omega
theorem an_le (g : CL Mm t M) (c : ¬ (3 : Int32) < nI (AN Mm)) : nI (SN Mm) = nI (AN Mm) := by
  have h1 := AN_le Mm
  have : AN Mm ≤ 3 := by
    rcases Nat.lt_or_ge 3 (AN Mm) with q | q
    · exact absurd ((three_lt (by omega)).mpr q) c
    · exact q
  rw [eq_SN g this]
theorem lh_A (g : CL Mm t M) (hc : ¬ CN Mm = 0) : ¬ hiA Mm < loA Mm := by rw [hiA, loA, if_neg hc, if_neg hc]; exact lo_hi g hc
theorem pe_bit (g : CL Mm t M) (hc : ¬ CN Mm = 0) : ((svS Mm >>> (pe Mm &&& 31)) &&& 1) = 1 := by
  obtain ⟨s, s1, s2, s3⟩ := peer_yes g hc
  rw [s3, bit_1 (by omega), (svS_bit g).2 s s1]
  exact s2
/-! the least and the greatest offset of the survivors seen so far -/
def LG (Mm : Mem) (i : Nat) (a b : Int64) : Prop := (∀ e, e < i → svF Mm e = true → a.toInt ≤ (offM Mm e).toInt ∧ (offM Mm e).toInt ≤ b.toInt) ∧ (a = 9000000000000000 ∨ ∃ e, e < i ∧ svF Mm e = true ∧ a = offM Mm e) ∧ (b = -9000000000000000 ∨ ∃ e, e < i ∧ svF Mm e = true ∧ b = offM Mm e)
theorem lg_skip {i : Nat} {a b : Int64} (h : LG Mm i a b) (hs : svF Mm i = false) : LG Mm (i + 1) a b := by
  obtain ⟨h1, h2, h3⟩ := h
  refine ⟨fun e he hb => ?_, h2.imp id (fun ⟨e, q1, q2⟩ => ⟨e, by omega, q2⟩), h3.imp id (fun ⟨e, q1, q2⟩ => ⟨e, by omega, q2⟩)⟩
  by_cases c : e = i
  · rw [c, hs] at hb; cases hb
  · exact h1 e (by omega) hb
theorem lg_new (g : CL Mm t M) {i : Nat} {a b a' b' : Int64} (hi : i < sn Mm) (h : LG Mm i a b) (hs : svF Mm i = true) (ha : (a' = oA Mm i ∧ oA Mm i < a) ∨ (a' = a ∧ ¬ oA Mm i < a)) (hb : (b' = oA Mm i ∧ b < oA Mm i) ∨ (b' = b ∧ ¬ b < oA Mm i)) : LG Mm (i + 1) a' b' := by
  have h8 := Nat.lt_of_lt_of_le hi g.s8
  have eo : oA Mm i = offM Mm i := by rw [oA, if_pos (cnd_i (sv_cnd g h8 hs)).2]
  rw [eo] at ha hb
  obtain ⟨h1, h2, h3⟩ := h
  have la : a'.toInt ≤ a.toInt ∧ a'.toInt ≤ (offM Mm i).toInt := by
    rcases ha with ⟨e, q⟩ | ⟨e, q⟩ <;> rw [e] <;> rw [l_lt] at q <;> omega
  have lb : b.toInt ≤ b'.toInt ∧ (offM Mm i).toInt ≤ b'.toInt := by
    rcases hb with ⟨e, q⟩ | ⟨e, q⟩ <;> rw [e] <;> rw [l_lt] at q <;> omega
  refine ⟨fun e he hb9 => ?_, ?_, ?_⟩
  · by_cases c : e = i
    · rw [c]; exact ⟨la.2, lb.2⟩
    · have := h1 e (by omega) hb9
      omega
  · rcases ha with ⟨e, -⟩ | ⟨e, -⟩
    · exact Or.inr ⟨i, by omega, hs, e⟩
    · rw [e]; exact h2.imp id (fun ⟨q, q1, q2⟩ => ⟨q, by omega, q2⟩)
  · rcases hb with ⟨e, -⟩ | ⟨e, -⟩
    · exact Or.inr ⟨i, by omega, hs, e⟩
    · rw [e]; exact h3.imp id (fun ⟨q, q1, q2⟩ => ⟨q, by omega, q2⟩)
theorem lg_0 : LG Mm 0 9000000000000000 (-9000000000000000) := ⟨fun e he => absurd he (Nat.not_lt_zero e), Or.inl rfl, Or.inl rfl⟩
theorem lg_end (g : CL Mm t M) (hc : ¬ CN Mm = 0) {a b : Int64} (h : LG Mm (sn Mm) a b) : ¬ meA Mm < a ∧ ¬ b < meA Mm := by
  obtain ⟨h1, h2, h3⟩ := h
  obtain ⟨j, hj, hb⟩ := some_sv' g hc
  have jn := (cnd_i (sv_cnd g hj hb)).1
  have hr : ∀ e, e < sn Mm → svF Mm e = true → -4000000000 ≤ (offM Mm e).toInt ∧ (offM Mm e).toInt ≤ 4000000000 := fun e he hs => off_rng g.2.1.nb g.2.2.1 (sv_cnd g (Nat.lt_of_lt_of_le he g.s8) hs)
  have hj1 := h1 j jn hb
  have hj2 := hr j jn hb
  have ha : -4000000000 ≤ a.toInt := by
    rcases h2 with e | ⟨e, q1, q2, q3⟩
    · rw [e, show (9000000000000000 : Int64).toInt = 9000000000000000 by decide] at hj1; omega
    · rw [q3]; exact (hr e q1 q2).1
  have hb' : b.toInt ≤ 4000000000 := by
    rcases h3 with e | ⟨e, q1, q2, q3⟩
    · rw [e, show (-9000000000000000 : Int64).toInt = -9000000000000000 by decide] at hj1; omega
    · rw [q3]; exact (hr e q1 q2).2
  have m := mean_rng g hc ha hb' (fun e he hs => h1 e (cnd_i (sv_cnd g he hs)).1 hs)
  rw [meA, if_neg hc, l_lt, l_lt]
  omega
end FA
/-! time in pieces -/
theorem mem_ext {A B : Mem} (hI : ∀ i, gI A i = gI B i) (hL : ∀ i, gL A i = gL B i) (hB : ∀ i, gB A i = gB B i) (hJ : ∀ i, gJ A i = gJ B i) : A = B := by
  obtain ⟨a1, a2, a3, a4⟩ := A
  obtain ⟨b1, b2, b3, b4⟩ := B
  have e1 : a1 = b1 := funext hI
  have e2 : a2 = b2 := funext hL
  have e3 : a3 = b3 := funext hB
  have e4 : a4 = b4 := funext hJ
  rw [e1, e2, e3, e4]
theorem prt_i {p : Int64} {a : Int32} (h0 : 0 ≤ a.toInt) : (prt p a).toInt = if 500 * a.toInt < p.toInt then 500 * a.toInt else if p.toInt < -(500 * a.toInt) then -(500 * a.toInt) else p.toInt := by
  obtain ⟨e1, e2⟩ := t500 h0
  rw [prt]
  by_cases c1 : 500 * a.toInt64 < p
  · have c1' := l_lt.mp c1
    rw [e1] at c1'
    rw [if_pos c1, if_pos c1', e1]
  · have c1' : ¬ 500 * a.toInt < p.toInt := fun q => c1 (l_lt.mpr (by rw [e1]; exact q))
    rw [if_neg c1, if_neg c1']
    by_cases c2 : p < -(500 * a.toInt64)
    · have c2' := l_lt.mp c2
      rw [e2] at c2'
      rw [if_pos c2, if_pos c2', e2]
    · have c2' : ¬ p.toInt < -(500 * a.toInt) := fun q => c2 (l_lt.mpr (by rw [e2]; exact q))
      rw [if_neg c2, if_neg c2']
theorem prt_2 {p : Int64} {a b c : Int32} (ha : 0 ≤ a.toInt) (hb : 0 ≤ b.toInt) (hc : c.toInt = a.toInt + b.toInt) : prt p c = prt p a + prt (p - prt p a) b := by
  have hp := l_rng p
  have ra := i_rng a
  have rb := i_rng b
  have e1 := prt_i (p := p) ha
  have e2 := prt_i (p := p - prt p a) hb
  have e3 := prt_i (p := p) (a := c) (by omega)
  have es : (p - prt p a).toInt = p.toInt - (prt p a).toInt := by
    refine l_sub ?_
    rw [e1]
    split
    · omega
    · split <;> omega
  rw [es] at e2
  have hx : (prt p c).toInt = (prt p a).toInt + (prt (p - prt p a) b).toInt := by
    rw [e2, e1, e3, hc]
    by_cases c1 : 500 * a.toInt < p.toInt
    · rw [if_pos c1]
      by_cases c2 : 500 * b.toInt < p.toInt - 500 * a.toInt
      · rw [if_pos c2, if_pos (by omega)]; omega
      · rw [if_neg c2, if_neg (by omega), if_neg (by omega), if_neg (by omega)]; omega
    · rw [if_neg c1]
      by_cases c2 : p.toInt < -(500 * a.toInt)
      · rw [if_pos c2]
        by_cases c3 : p.toInt - -(500 * a.toInt) < -(500 * b.toInt)
        · rw [if_neg (by omega), if_pos (by omega), if_neg (by omega), if_pos c3]; omega
        · rw [if_neg (by omega), if_neg (by omega), if_neg (by omega), if_neg c3]; omega
      · rw [if_neg c2, if_neg (by omega), if_neg (by omega), if_neg (by omega), if_neg (by omega)]; omega
  refine l_eq ?_
  rw [hx]
  refine (l_add ?_).symm
  rw [← hx]
  exact l_rng _
theorem t64_add {a b c : Int32} (hc : c.toInt = a.toInt + b.toInt) : c.toInt64 = a.toInt64 + b.toInt64 := by
  have ra := i_rng a
  have rb := i_rng b
  refine l_eq ?_
  rw [l_add (by rw [Int32.toInt_toInt64, Int32.toInt_toInt64]; omega), Int32.toInt_toInt64, Int32.toInt_toInt64, Int32.toInt_toInt64, hc]
theorem four_add {x u v w z : Int64} : x + (u + v) + (w + z) = x + ((u + w) + (v + z)) := by
  rw [Int64.add_assoc x, Int64.add_assoc u v, ← Int64.add_assoc v w z, Int64.add_comm v w, Int64.add_assoc w v z, ← Int64.add_assoc u w]
theorem go_2 {M : Mem} {a b c : Int32} (ha : 0 ≤ a.toInt) (hb : 0 ≤ b.toInt) (hc : c.toInt = a.toInt + b.toInt) : f_X6_goOn (f_X6_goOn M a) b = f_X6_goOn M c := by
  rw [go6 (M := f_X6_goOn M a), go6 (M := M) (t := a), go6 (M := M) (t := c)]
  refine mem_ext (fun i => ?_) (fun i => ?_) (fun i => ?_) (fun i => ?_)
  · simp -implicitDefEqProofs (disch := decide) only [gL_eq, gL_ne, gI_eq, gI_ne, gB_eq, gB_ne, gJ_eq, gJ_ne, gL_sI, gI_sL, gI_sB, gI_sJ, gL_sB, gL_sJ, gB_sI, gB_sL, gB_sJ, gJ_sI, gJ_sL, gJ_sB]
  · simp -implicitDefEqProofs (disch := decide) only [gL_eq, gL_ne, gI_eq, gI_ne, gB_eq, gB_ne, gJ_eq, gJ_ne, gL_sI, gI_sL, gI_sB, gI_sJ, gL_sB, gL_sJ, gB_sI, gB_sL, gB_sJ, gJ_sI, gJ_sL, gJ_sB]
    rw [prt_2 ha hb hc, t64_add hc]
    by_cases e2 : i = 2
    · rw [e2, gL_eq, gL_eq, Int64.sub_sub]
    · rw [gL_ne e2, gL_ne e2]
      by_cases e1 : i = 1
      · rw [e1, gL_eq, gL_eq]
        rw [Int64.add_mul]
        exact four_add
      · rw [gL_ne e1, gL_ne e1]
        by_cases e0 : i = 0
        · rw [e0, gL_eq, gL_eq, Int64.add_assoc]
        · rw [gL_ne e0, gL_ne e0, gL_ne e2, gL_ne e1, gL_ne e0]
  · simp -implicitDefEqProofs (disch := decide) only [gL_eq, gL_ne, gI_eq, gI_ne, gB_eq, gB_ne, gJ_eq, gJ_ne, gL_sI, gI_sL, gI_sB, gI_sJ, gL_sB, gL_sJ, gB_sI, gB_sL, gB_sJ, gJ_sI, gJ_sL, gJ_sB]
  · simp -implicitDefEqProofs (disch := decide) only [gL_eq, gL_ne, gI_eq, gI_ne, gB_eq, gB_ne, gJ_eq, gJ_ne, gL_sI, gI_sL, gI_sB, gI_sJ, gL_sB, gL_sJ, gB_sI, gB_sL, gB_sJ, gJ_sI, gJ_sL, gJ_sB]
