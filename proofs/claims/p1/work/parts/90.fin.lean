/-! p1: one call on fresh objects -/
def C0m : Mem := f_X5_begin M0c 0
def IP1 (i : Nat) (Mc Mm : Mem) : Prop := i = 0 → Mc = C0m ∧ Mm = M0m
theorem fr_RS : RS C0m M0m := by
  refine ⟨?_, ?_, ?_, ?_, ?_, ?_, ?_, ?_, ?_⟩ <;> decide +kernel
theorem fr_RL : RLp C0m M0m := fun d hd => Or.inl ⟨rfl, by rw [show gI C0m 6 = 0 by decide +kernel]; exact b_0 d, by rw [show gI C0m 7 = 0 by decide +kernel]; exact b_0 d⟩
theorem fr_no (x : Int32) : f_X5_serverOrNull C0m x = none ∧ f_X6_isServer M0m x = 0 := by
  rcases srv_eq WF0 fr_RS.2.2.2.2.2.2.2.2 x with h | ⟨j, hj, -⟩
  · exact h
  · exact absurd hj (by rw [show sn M0m = 0 by decide]; omega)
theorem fr_at {i : Nat} {Mc Mm : Mem} (hi : i + 5 ≤ 5) (h : IP1 i Mc Mm) : Mc = C0m ∧ Mm = M0m := h (by omega)
theorem fr_DP : DP 5 IP1 := by
  intro i Mc Mm hi w h
  obtain ⟨rfl, rfl⟩ := fr_at hi h
  refine ⟨fun M1 e h1 => ?_, fun M1 e h1 => ?_, fun M1 M2 r e1 e2 j hj hb => ?_⟩
  · exact absurd (by rw [e]; decide +kernel) h1
  · exact absurd h1 (by rw [e]; decide +kernel)
  · refine absurd ?_ hb
    have e3 : M2 = (f_X6_refused M1 0).2 := by rw [← e2]
    rw [e3, ref_e, e1]
    exact (by decide +kernel : ∀ j, j < 8 → gB (sI (f_X6_select M0m) 0 0) 7 j = 0) j hj
theorem fs_0 : SP_0 5 IP1 := fun i _ _ _ _ _ _ h => absurd h (by omega)
theorem fk_0 : KP_0 5 IP1 := by
  intro i Mc Mm x1 hi w h
  obtain ⟨rfl, rfl⟩ := fr_at hi h
  exact kp_0
theorem fs_1 : SP_1 5 IP1 := fun i _ _ _ _ _ _ h => absurd h (by omega)
theorem fk_1 : KP_1 5 IP1 := by
  intro i Mc Mm x1 hi w h
  obtain ⟨rfl, rfl⟩ := fr_at hi h
  exact kp_1 fr_RS
theorem fs_2 : SP_2 5 IP1 := fun i _ _ _ _ _ _ h => absurd h (by omega)
theorem fk_2 : KP_2 5 IP1 := by
  intro i Mc Mm x1 hi w h
  obtain ⟨rfl, rfl⟩ := fr_at hi h
  exact kp_2 fr_RS
theorem fs_3 : SP_3 5 IP1 := fun i _ _  _ _ _ h => absurd h (by omega)
theorem fk_3 : KP_3 5 IP1 := by
  intro i Mc Mm  hi w h
  obtain ⟨rfl, rfl⟩ := fr_at hi h
  exact kp_3 fr_RS
theorem fs_4 : SP_4 5 IP1 := fun i _ _  _ _ _ h => absurd h (by omega)
theorem fk_4 : KP_4 5 IP1 := by
  intro i Mc Mm  hi w h
  obtain ⟨rfl, rfl⟩ := fr_at hi h
  exact kp_4 fr_RS
theorem fs_5 : SP_5 5 IP1 := fun i _ _  _ _ _ h => absurd h (by omega)
theorem fk_5 : KP_5 5 IP1 := by
  intro i Mc Mm  hi w h
  obtain ⟨rfl, rfl⟩ := fr_at hi h
  exact kp_5 fr_RS
theorem fs_6 : SP_6 5 IP1 := fun i _ _  _ _ _ h => absurd h (by omega)
theorem fk_6 : KP_6 5 IP1 := by
  intro i Mc Mm  hi w h
  obtain ⟨rfl, rfl⟩ := fr_at hi h
  exact kp_6 fr_RS
theorem fs_7 : SP_7 5 IP1 := fun i _ _  _ _ _ h => absurd h (by omega)
theorem fk_7 : KP_7 5 IP1 := by
  intro i Mc Mm  hi w h
  obtain ⟨rfl, rfl⟩ := fr_at hi h
  exact kp_7 fr_RS
theorem fs_8 : SP_8 5 IP1 := fun i _ _ _ _ _ _ _ h => absurd h (by omega)
theorem fk_8 : KP_8 5 IP1 := by
  intro i Mc Mm x1 x2 hi w h
  obtain ⟨rfl, rfl⟩ := fr_at hi h
  exact kp_8 fr_RS fr_RL
theorem fs_9 : SP_9 5 IP1 := fun i _ _  _ _ _ h => absurd h (by omega)
theorem fk_9 : KP_9 5 IP1 := by
  intro i Mc Mm  hi w h
  obtain ⟨rfl, rfl⟩ := fr_at hi h
  decide +kernel
theorem fs_10 : SP_10 5 IP1 := fun i _ _ _ _ _ _ _ _ _ h => absurd h (by omega)
theorem fk_10 : KP_10 5 IP1 := by
  intro i Mc Mm x1 x2 x3 x4 hi w h
  obtain ⟨rfl, rfl⟩ := fr_at hi h
  exact kp_10 w fr_RS
theorem fs_11 : SP_11 5 IP1 := fun i _ _ _ _ _ _ _ h => absurd h (by omega)
theorem fk_11 : KP_11 5 IP1 := by
  intro i Mc Mm x1 x2 hi w h
  obtain ⟨rfl, rfl⟩ := fr_at hi h
  obtain ⟨e1, e2⟩ := no_11 (y := x2) (fr_no x1).1 (fr_no x1).2
  rw [e1, e2]
  exact cI_thr (by decide) (by decide)
theorem fs_12 : SP_12 5 IP1 := fun i _ _ _ _ _ _ _ _ _ h => absurd h (by omega)
theorem fk_12 : KP_12 5 IP1 := by
  intro i Mc Mm x1 x2 x3 x4 hi w h
  obtain ⟨rfl, rfl⟩ := fr_at hi h
  obtain ⟨e1, e2⟩ := no_12 (y := x2) (z := x3) (u := x4) (fr_no x1).1 (fr_no x1).2
  rw [e1, e2]
  exact cN_thr (by decide) (by decide)
theorem fs_13 : SP_13 5 IP1 := fun i _ _  _ _ _ h => absurd h (by omega)
theorem fk_13 : KP_13 5 IP1 := by
  intro i Mc Mm  hi w h
  obtain ⟨rfl, rfl⟩ := fr_at hi h
  exact kp_13 w fr_RS
theorem fs_14 : SP_14 5 IP1 := fun i _ _ _ _ _ _ h => absurd h (by omega)
theorem fk_14 : KP_14 5 IP1 := by
  intro i Mc Mm x1 hi w h
  obtain ⟨rfl, rfl⟩ := fr_at hi h
  obtain ⟨e1, e2⟩ := no_14 (fr_no x1).1 (fr_no x1).2
  rw [e1, e2]
  exact cI_thr (by decide) (by decide)
theorem fs_15 : SP_15 5 IP1 := fun i _ _ _ _ _ _ h => absurd h (by omega)
theorem fk_15 : KP_15 5 IP1 := by
  intro i Mc Mm x1 hi w h
  obtain ⟨rfl, rfl⟩ := fr_at hi h
  obtain ⟨e1, e2⟩ := no_15 (fr_no x1).1 (fr_no x1).2
  rw [e1, e2]
  exact cN_thr (by decide) (by decide)
theorem fs_16 : SP_16 5 IP1 := fun i _ _ _ _ _ _ h => absurd h (by omega)
theorem fk_16 : KP_16 5 IP1 := by
  intro i Mc Mm x1 hi w h
  obtain ⟨rfl, rfl⟩ := fr_at hi h
  obtain ⟨e1, e2⟩ := no_16 (fr_no x1).1 (fr_no x1).2
  rw [e1, e2]
  exact cN_thr (by decide) (by decide)
theorem fs_17 : SP_17 5 IP1 := fun i _ _ _ _ _ _ h => absurd h (by omega)
theorem fk_17 : KP_17 5 IP1 := by
  intro i Mc Mm x1 hi w h
  obtain ⟨rfl, rfl⟩ := fr_at hi h
  obtain ⟨e1, e2⟩ := no_17 (fr_no x1).1 (fr_no x1).2
  rw [e1, e2]
  exact cN_thr (by decide) (by decide)
theorem fs_18 : SP_18 5 IP1 := fun i _ _ _ _ _ _ h => absurd h (by omega)
theorem fk_18 : KP_18 5 IP1 := by
  intro i Mc Mm x1 hi w h
  obtain ⟨rfl, rfl⟩ := fr_at hi h
  obtain ⟨e1, e2⟩ := no_18 (fr_no x1).1 (fr_no x1).2
  rw [e1, e2]
  exact cN_thr (by decide) (by decide)
theorem fs_19 : SP_19 5 IP1 := fun i _ _  _ _ _ h => absurd h (by omega)
theorem fk_19 : KP_19 5 IP1 := by
  intro i Mc Mm  hi w h
  obtain ⟨rfl, rfl⟩ := fr_at hi h
  decide +kernel
theorem fs_20 : SP_20 5 IP1 := fun i _ _  _ _ _ h => absurd h (by omega)
theorem fk_20 : KP_20 5 IP1 := by
  intro i Mc Mm  hi w h
  obtain ⟨rfl, rfl⟩ := fr_at hi h
  decide +kernel
theorem fs_21 : SP_21 5 IP1 := fun i _ _  _ _ _ h => absurd h (by omega)
theorem fk_21 : KP_21 5 IP1 := by
  intro i Mc Mm  hi w h
  obtain ⟨rfl, rfl⟩ := fr_at hi h
  decide +kernel
theorem fs_22 : SP_22 5 IP1 := fun i _ _  _ _ _ h => absurd h (by omega)
theorem fk_22 : KP_22 5 IP1 := by
  intro i Mc Mm  hi w h
  obtain ⟨rfl, rfl⟩ := fr_at hi h
  unfold cmpN
  decide +kernel
theorem fs_23 : SP_23 5 IP1 := fun i _ _  _ _ _ h => absurd h (by omega)
theorem fk_23 : KP_23 5 IP1 := by
  intro i Mc Mm  hi w h
  obtain ⟨rfl, rfl⟩ := fr_at hi h
  unfold cmpN
  decide +kernel
theorem fs_24 : SP_24 5 IP1 := fun i _ _  _ _ _ h => absurd h (by omega)
theorem fk_24 : KP_24 5 IP1 := by
  intro i Mc Mm  hi w h
  obtain ⟨rfl, rfl⟩ := fr_at hi h
  decide +kernel
theorem fs_25 : SP_25 5 IP1 := fun i _ _  _ _ _ h => absurd h (by omega)
theorem fk_25 : KP_25 5 IP1 := by
  intro i Mc Mm  hi w h
  obtain ⟨rfl, rfl⟩ := fr_at hi h
  unfold cmpN
  decide +kernel
theorem fs_26 : SP_26 5 IP1 := fun i _ _  _ _ _ h => absurd h (by omega)
theorem fk_26 : KP_26 5 IP1 := by
  intro i Mc Mm  hi w h
  obtain ⟨rfl, rfl⟩ := fr_at hi h
  decide +kernel
theorem fs_27 : SP_27 5 IP1 := fun i _ _  _ _ _ h => absurd h (by omega)
theorem fk_27 : KP_27 5 IP1 := by
  intro i Mc Mm  hi w h
  obtain ⟨rfl, rfl⟩ := fr_at hi h
  unfold cmpN
  decide +kernel
theorem fs_28 : SP_28 5 IP1 := fun i _ _  _ _ _ h => absurd h (by omega)
theorem fk_28 : KP_28 5 IP1 := by
  intro i Mc Mm  hi w h
  obtain ⟨rfl, rfl⟩ := fr_at hi h
  decide +kernel
theorem fs_29 : SP_29 5 IP1 := fun i _ _  _ _ _ h => absurd h (by omega)
theorem fk_29 : KP_29 5 IP1 := by
  intro i Mc Mm  hi w h
  obtain ⟨rfl, rfl⟩ := fr_at hi h
  exact kp_29 fr_RS
theorem fs_30 : SP_30 5 IP1 := fun i _ _  _ _ _ h => absurd h (by omega)
theorem fk_30 : KP_30 5 IP1 := by
  intro i Mc Mm  hi w h
  obtain ⟨rfl, rfl⟩ := fr_at hi h
  exact kp_30 fr_RS
theorem fs_31 : SP_31 5 IP1 := fun i _ _ _ _ _ h => absurd h (by omega)
theorem whole_start {p : Program} {e : Env} {s : State} {m : MethodId} {below : List Frame} {meth : Method} {c : Code} (l : Launch) (hflags : l.flags = flags0) {b L : Nat} {xs : Nat → Int32} (hL : L ≤ 5) (C0 : lw_At p s m meth c b L xs) : W p l e room_1 s m #[Value.ref b] below meth c s.heap [] 0 0 (lw_Z below #[Value.ref b] s) (entryFrame m ([Value.ref b] : List Value).toArray 8) := by
  exact law_from (l := l) hflags (Nat.le_trans hL (by decide)) C0 hL fs_0 fs_1 fs_2 fs_3 fs_4 fs_5 fs_6 fs_7 fs_8 fs_9 fs_10 fs_11 fs_12 fs_13 fs_14 fs_15 fs_16 fs_17 fs_18 fs_19 fs_20 fs_21 fs_22 fs_23 fs_24 fs_25 fs_26 fs_27 fs_28 fs_29 fs_30 fs_31 fr_DP fk_0 fk_1 fk_2 fk_3 fk_4 fk_5 fk_6 fk_7 fk_8 fk_9 fk_10 fk_11 fk_12 fk_13 fk_14 fk_15 fk_16 fk_17 fk_18 fk_19 fk_20 fk_21 fk_22 fk_23 fk_24 fk_25 fk_26 fk_27 fk_28 fk_29 fk_30 (fun _ => ⟨rfl, rfl⟩)
set_option maxHeartbeats 4000000 in
theorem lw_walk (l : Launch) (hflags : l.flags = flags0) (b : Addr) (xs : List Int32) : MetFree l x (headSpec (Jvm.Cond.code x code maxLocals ret :: tables_1) room_1) (lw_P b xs) (fun _ _ _ _ _ => True) lw_Q := by
  refine MetFree.of_bodyS (code := code) (maxLocals := maxLocals) (ret := ret) (by decide) ?_ ?_
  · intro args s m h hn
    obtain ⟨meth, c, h1, h2, h3, h4, h5, h6, -, -⟩ := Cond.code_spec hn (atoms_spec (ws := Jvm.Cond.code x code maxLocals ret :: tables_1) h _ List.mem_cons_self)
    exact ⟨meth, c, h1, h2, h3, h4, h5, h6⟩
  · intro p e s m args below meth c s₁ B hml0 hP _
    obtain ⟨rfl, hx, hbd, hgv⟩ := hP
    obtain ⟨scr, harrAt, hlist, hof, hsmall⟩ := hx
    obtain ⟨hcb, hkn, -, -⟩ := State.arrayAt?_spec harrAt
    have hown : s.vm.findClass R_law = some m.cls := findClass_of_methodNamed B.named
    have hts0 : ∀ c ∈ (Jvm.Cond.code x code maxLocals ret :: tables_1), c.before #[Value.ref b] s = true := atoms_spec (ws := Jvm.Cond.code x code maxLocals ret :: tables_1) B.pre
    have hts : ∀ w ∈ lw_tbl, w.before #[Value.ref b] s = true := k2_hts_sels lw_privs (fun w hw => hts0 w (List.mem_cons_of_mem _ hw)) lw_privs_ok
    have hml : c.maxLocals = 8 := B.maxLocals_eq (hts0 _ List.mem_cons_self)
    have X₀ : Stand p l e room_1 s m #[Value.ref b] below meth c s₁ [] 0 0 := Stand.of_body B
    have hh0 : s₁.heap = s.heap := by rw [B.state]; rfl
    have hsz : scr.slots.size = xs.length := by rw [← Array.length_toList, hlist, List.length_map]
    have hval : ∀ j : Nat, j < xs.length → scr.slots[j]? = some (.int (xs.getD j 0)) := fun j hj => by
      rw [← Array.getElem?_toList, hlist]
      simp [hj]
    have hbl : b < s.heap.size := (Array.getElem?_eq_some_iff.mp hcb).1
    have hX : va_X b xs.length (fun j => xs.getD j 0) s s.heap := ⟨scr, hcb, hof, hkn, hsz, hval⟩
    have K : W p l e room_1 s m #[Value.ref b] below meth c s₁.heap [] 0 0 (lw_Z below #[Value.ref b] s) (entryFrame m ([Value.ref b] : List Value).toArray 8) := by
      rw [hh0]
      exact whole_start l hflags hbd ⟨B.exec, B.bytes, B.returns, hml, hown, hts, hX, hbl, B.notSynchronized, hgv⟩
    obtain ⟨t, a1, o, b1, b2, b3⟩ := K s₁ rfl X₀
    exact ⟨t, o, a1, b1, b2, b3⟩
theorem lw_pre_spec {args : Array Value} {s : State} (h : (Jvm.Cond.and given_1 narrow_1).before args s = true) (hr : rest_1_c.before args s = true) : ∃ (b : Addr) (xs : List Int32), lw_P b xs args s := by
  have hs := flat_of_before _ h
  have hq := flat_of_before _ hr
  have hc : (Cond.count 1).before args s = true := hs _ (by decide +kernel)
  have harr : (Cond.arrayOf (.arg 0) .int).before args s = true := hs _ (by decide +kernel)
  have hle : (Cond.le (.length (.arg 0)) (.int 5)).before args s = true := hs _ (by decide +kernel)
  have hlen : (Cond.isInt (.length (.arg 0))).before args s = true := hq _ (by decide +kernel)
  have hall : (Cond.all (.arg 0) (.isInt (.elem (.arg 0) (.index 0)))).before args s = true := hq _ (by decide +kernel)
  obtain ⟨b, xs, hb, hx⟩ := State.ints_of_pre rfl harr hlen hall
  have hsm : xs.length < 2 ^ 31 := hx.choose_spec.2.2.2
  have hev : (Term.length (.arg 0)).eval args s none [] s = some (.int xs.length.toInt32) := hx.length_eval hb
  have hv := Cond.le_ints hev (show (Term.int 5).eval args s none [] s = some (.int 5) from rfl)
  have hd : xs.length.toInt32 ≤ 5 := by
    simpa [Cond.before, Cond.holds, hv] using hle
  have hN : xs.length ≤ 5 := (Int32.ofNat_le_ofNat hsm (by decide)).mp (show Int32.ofNat xs.length ≤ Int32.ofNat 5 from hd)
  exact ⟨b, xs, Cond.one_arg hc (show args[0]? = some (.ref b) from hb), hx, hN, h⟩
theorem lw_comes (l : Launch) (hflags : l.flags = flags0) : Comes l x (Jvm.Cond.code x code maxLocals ret :: tables_1) room_1 (fun tb e args s => Calls_1 tb e args s ∧ rest_1 tb e args s ∧ Pre_1 tb e args s)
    (fun _ _ args s o t => lw_Q args s o t) := by
  intro p e ha hc hk s m args below hf hfit hheap happ hpre
  obtain ⟨b, xs, hP⟩ := lw_pre_spec hpre.2.2 hpre.2.1
  obtain ⟨k, o, h1, h2, h3, hQ⟩ := lw_walk l hflags b xs p e ha hc hk s m args below hf ((Spec.applies_iff_loose hf).mp happ).1 hP trivial
  exact ⟨k, o, h1, h2, h3, hQ⟩
theorem lw_frame {s t : State} {o : Outcome} {args : Array Value} (h : Framed s o t [] 600002 7302232) :
    Framed s o t (fieldLocs frame_1_writes args s ++ arrayLocs frame_1_arrays args s ++ staticLocs frame_1_statics s) 600002 7302232 := h
theorem lw_limb (L : Cond) (hL : ∀ (args : Array Value) (s t : State), L.after args s (.returned (some (.int 1))) t = true) :
    ArmFor flags0 classFile x code maxLocals ret World_1 tables_1 room_1 Calls_1 rest_1 Pre_1
      (fun tb e a s o t => postC L tb e a s o t ∧ Framed s o t (fieldLocs frame_1_writes a s ++ arrayLocs frame_1_arrays a s ++ staticLocs frame_1_statics s) 600002 7302232) := by
  intro l hflags _ _ p e ha hc hk s m args below hf hfit hheap happ hpre
  obtain ⟨k, o, h1, h2, h3, rfl, hF⟩ := lw_comes l hflags p e ha hc hk s m args below hf hfit hheap happ hpre
  exact ⟨k, _, h1, h2, h3, hL args s _, lw_frame hF⟩
theorem i_vc : Claimed_1_1 ∧ Claimed_1_2 := ⟨lw_limb limb_1_1 (fun args s t => by simp [limb_1_1, Cond.after, Cond.holds, Cond.value]), lw_limb limb_1_2 (fun args s t => Cond.after_iff.mpr (by
  first | (rw [show limb_1_2 = Cond.eq .result (.int 1) from rfl, Cond.eq_ints (x := 1) (y := 1) rfl rfl]; simp; done) | (simp [limb_1_2, Cond.value, Term.eval]; done)))⟩
