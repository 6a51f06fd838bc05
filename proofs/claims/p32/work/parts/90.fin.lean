/-! the claim, over the whole relation -/
def I2 (i : Nat) (Mc Mm : Mem) : Prop := RR Mc Mm ∧ NI Mm
theorem g_0 (N : Nat) : SP_0 N I2 := by
  intro i Mc Mm x1 hi w h
  exact ⟨r_0 h.1, rst6_rd h.2⟩
theorem g_1 (N : Nat) : SP_1 N I2 := by
  intro i Mc Mm x1 hi w h
  exact ⟨r_1 h.1, ni_1 h.2⟩
theorem g_2 (N : Nat) : SP_2 N I2 := by
  intro i Mc Mm x1 hi w h
  exact ⟨r_2 h.1, ni_2 h.2⟩
theorem g_8 (N : Nat) : SP_8 N I2 := by
  intro i Mc Mm x1 x2 hi w h
  exact ⟨r_8 h.1, ni_8 h.2⟩
theorem g_10 (N : Nat) : SP_10 N I2 := by
  intro i Mc Mm x1 x2 x3 x4 hi w h
  exact ⟨r_10 w h.1, ni_10 h.2 w⟩
theorem g_11 (N : Nat) : SP_11 N I2 := by
  intro i Mc Mm x1 x2 hi w h
  exact ⟨r_11 w h.1, ni_11 h.2⟩
theorem g_12 (N : Nat) : SP_12 N I2 := by
  intro i Mc Mm x1 x2 x3 x4 hi w h
  exact ⟨r_12 w h.1, ni_12 h.2 w⟩
theorem g_27 (N : Nat) : SP_27 N I2 := by
  intro i Mc Mm hi w h
  exact ⟨r_27 h.2 w h.1, ni_27 h.2 w⟩
theorem g_3 (N : Nat) : SP_3 N I2 := by
  intro i Mc Mm hi w h
  exact ⟨RR_m h.1 me_3, h.2.eq me_3⟩
theorem g_4 (N : Nat) : SP_4 N I2 := by
  intro i Mc Mm hi w h
  exact ⟨RR_m h.1 me_4, h.2.eq me_4⟩
theorem g_5 (N : Nat) : SP_5 N I2 := by
  intro i Mc Mm hi w h
  exact ⟨RR_m h.1 me_5, h.2.eq me_5⟩
theorem g_6 (N : Nat) : SP_6 N I2 := by
  intro i Mc Mm hi w h
  exact ⟨RR_m h.1 me_6, h.2.eq me_6⟩
theorem g_7 (N : Nat) : SP_7 N I2 := by
  intro i Mc Mm hi w h
  exact ⟨RR_m h.1 me_7, h.2.eq me_7⟩
theorem g_9 (N : Nat) : SP_9 N I2 := by
  intro i Mc Mm hi w h
  exact ⟨RR_m h.1 me_9, h.2.eq me_9⟩
theorem g_13 (N : Nat) : SP_13 N I2 := by
  intro i Mc Mm hi w h
  exact ⟨RR_m h.1 me_13, h.2.eq me_13⟩
theorem g_28 (N : Nat) : SP_28 N I2 := by
  intro i Mc Mm hi w h
  exact ⟨RR_m h.1 me_28, h.2.eq me_28⟩
theorem g_29 (N : Nat) : SP_29 N I2 := by
  intro i Mc Mm hi w h
  exact ⟨RR_m h.1 me_29, h.2.eq me_29⟩
theorem g_30 (N : Nat) : SP_30 N I2 := by
  intro i Mc Mm hi w h
  exact ⟨RR_m h.1 me_30, h.2.eq me_30⟩
theorem g_14 (N : Nat) : SP_14 N I2 := by
  intro i Mc Mm x1 hi w h
  rw [c_14s]
  exact ⟨RR_m h.1 me_14, h.2.eq me_14⟩
theorem g_15 (N : Nat) : SP_15 N I2 := by
  intro i Mc Mm x1 hi w h
  rw [c_15]
  exact ⟨RR_m h.1 me_15, h.2.eq me_15⟩
theorem g_16 (N : Nat) : SP_16 N I2 := by
  intro i Mc Mm x1 hi w h
  rw [c_16]
  exact ⟨RR_m h.1 me_16, h.2.eq me_16⟩
theorem g_17 (N : Nat) : SP_17 N I2 := by
  intro i Mc Mm x1 hi w h
  rw [c_17]
  exact ⟨RR_m h.1 me_17, h.2.eq me_17⟩
theorem g_18 (N : Nat) : SP_18 N I2 := by
  intro i Mc Mm x1 hi w h
  rw [c_18]
  exact ⟨RR_m h.1 me_18, h.2.eq me_18⟩
theorem g_19 (N : Nat) : SP_19 N I2 := by
  intro i Mc Mm hi w h
  rw [c_19]
  exact ⟨RR_m (RR_c h.1 EC_select) (me_19 w), h.2.eq (me_19 w)⟩
theorem g_20 (N : Nat) : SP_20 N I2 := by
  intro i Mc Mm hi w h
  rw [c_20]
  exact ⟨RR_m (RR_c h.1 EC_select) (me_20 w), h.2.eq (me_20 w)⟩
theorem g_21 (N : Nat) : SP_21 N I2 := by
  intro i Mc Mm hi w h
  rw [c_21]
  exact ⟨RR_m (RR_c h.1 EC_select) (me_21 w), h.2.eq (me_21 w)⟩
theorem g_22 (N : Nat) : SP_22 N I2 := by
  intro i Mc Mm hi w h
  rw [c_22]
  exact ⟨RR_m (RR_c h.1 EC_select) (me_22 w), h.2.eq (me_22 w)⟩
theorem g_23 (N : Nat) : SP_23 N I2 := by
  intro i Mc Mm hi w h
  rw [c_23]
  exact ⟨RR_m (RR_c h.1 EC_select) (me_23 w), h.2.eq (me_23 w)⟩
theorem g_24 (N : Nat) : SP_24 N I2 := by
  intro i Mc Mm hi w h
  rw [c_24]
  exact ⟨RR_m (RR_c h.1 EC_select) (me_24 h.2 w), h.2.eq (me_24 h.2 w)⟩
theorem g_25 (N : Nat) : SP_25 N I2 := by
  intro i Mc Mm hi w h
  rw [c_25]
  exact ⟨RR_m (RR_c h.1 EC_select) (me_25 h.2 w), h.2.eq (me_25 h.2 w)⟩
theorem g_26 (N : Nat) : SP_26 N I2 := by
  intro i Mc Mm hi w h
  rw [c_26]
  exact ⟨RR_m (RR_c h.1 EC_select) (me_26 h.2 w), h.2.eq (me_26 h.2 w)⟩
theorem g_31 (N : Nat) : SP_31 N I2 := fun i Mc Mm hi w h => h
theorem g_D (N : Nat) : DP N I2 := fun i Mc Mm hi w h => DP_of h.2 w
theorem gk_30 (N : Nat) : KP_30 N I2 := by
  intro i Mc Mm hi w h
  exact kp_30 h.1.1
theorem I2_0 : I2 0 (f_X5_begin M0c 0) M0m := by
  have s0 : sn M0m = 0 := by decide
  refine ⟨⟨?_, fun d hd => Or.inl ⟨rfl, ?_, ?_⟩, fun k hk => absurd hk (by rw [s0]; omega)⟩, ?_, fun k hk => absurd hk (by rw [s0]; omega)⟩
  · refine ⟨?_, ?_, ?_, ?_, ?_, ?_, ?_, ?_, ?_⟩ <;> decide +kernel
  · rw [show gI (f_X5_begin M0c 0) 6 = 0 by decide +kernel]; exact b_0 d
  · rw [show gI (f_X5_begin M0c 0) 7 = 0 by decide +kernel]; exact b_0 d
  · unfold okG dev picI nowI
    rw [show gL M0m 0 = 0 by decide, show gL M0m 1 = 0 by decide, show gI M0m 1 = 0 by decide, show gI M0m 2 = 0 by decide]
    decide
theorem whole_start {p : Program} {e : Env} {s : State} {m : MethodId} {below : List Frame} {meth : Method} {c : Code} (l : Launch) (hflags : l.flags = flags0) {b L : Nat} {xs : Nat → Int32} (hL : L ≤ 2560) (C0 : lw_At p s m meth c b L xs) : W p l e room_1 s m #[Value.ref b] below meth c s.heap [] 0 0 (lw_Z below #[Value.ref b] s) (entryFrame m ([Value.ref b] : List Value).toArray 8) := by
  exact law_from (l := l) hflags (Nat.le_trans hL (by decide)) C0 hL (g_0 2560) (g_1 2560) (g_2 2560) (g_3 2560) (g_4 2560) (g_5 2560) (g_6 2560) (g_7 2560) (g_8 2560) (g_9 2560) (g_10 2560) (g_11 2560) (g_12 2560) (g_13 2560) (g_14 2560) (g_15 2560) (g_16 2560) (g_17 2560) (g_18 2560) (g_19 2560) (g_20 2560) (g_21 2560) (g_22 2560) (g_23 2560) (g_24 2560) (g_25 2560) (g_26 2560) (g_27 2560) (g_28 2560) (g_29 2560) (g_30 2560) (g_31 2560) (g_D 2560) (gk_30 2560) I2_0
set_option maxHeartbeats 4000000 in
theorem lw_walk (l : Launch) (hflags : l.flags = flags0) (b : Addr) (xs : List Int32) : MetFree l x (headSpec (Jvm.Cond.code x code maxLocals ret :: tables_1) room_1) (lw_P b xs) (fun _ _ _ _ _ => True) lw_Q := by
  refine MetFree.of_bodyS (code := code) (maxLocals := maxLocals) (ret := ret) (by decide) ?_ ?_
  · intro args s m h hn
    obtain ⟨meth, c, h1, h2, h3, h4, h5, h6, -, -⟩ := Cond.code_spec hn (atoms_spec (ws := Jvm.Cond.code x code maxLocals ret :: tables_1) h _ List.mem_cons_self)
    exact ⟨meth, c, h1, h2, h3, h4, h5, h6⟩
  · intro p e s m args below meth c s₁ B hml0 hP _
    obtain ⟨rfl, hx, hbd, hgv⟩ := hP
    obtain ⟨scr, harrAt, hlist, hof, hsmall⟩ := hx
    obtain ⟨hcb, hkn, -, -⟩ := State.arrayAt?_spec harrAt
    have hown : s.vm.findClass R_law = some m.cls := findClass_of_methodNamed B.named
    have hts0 : ∀ c ∈ (Jvm.Cond.code x code maxLocals ret :: tables_1), c.before #[Value.ref b] s = true := atoms_spec (ws := Jvm.Cond.code x code maxLocals ret :: tables_1) B.pre
    have hts : ∀ w ∈ lw_tbl, w.before #[Value.ref b] s = true := k2_hts_sels lw_privs (fun w hw => hts0 w (List.mem_cons_of_mem _ hw)) lw_privs_ok
    have hml : c.maxLocals = 8 := B.maxLocals_eq (hts0 _ List.mem_cons_self)
    have X₀ : Stand p l e room_1 s m #[Value.ref b] below meth c s₁ [] 0 0 := Stand.of_body B
    have hh0 : s₁.heap = s.heap := by rw [B.state]; rfl
    have hsz : scr.slots.size = xs.length := by rw [← Array.length_toList, hlist, List.length_map]
    have hval : ∀ j : Nat, j < xs.length → scr.slots[j]? = some (.int (xs.getD j 0)) := fun j hj => by
      rw [← Array.getElem?_toList, hlist]
      simp [hj]
    have hbl : b < s.heap.size := (Array.getElem?_eq_some_iff.mp hcb).1
    have hX : va_X b xs.length (fun j => xs.getD j 0) s s.heap := ⟨scr, hcb, hof, hkn, hsz, hval⟩
    have K : W p l e room_1 s m #[Value.ref b] below meth c s₁.heap [] 0 0 (lw_Z below #[Value.ref b] s) (entryFrame m ([Value.ref b] : List Value).toArray 8) := by
      rw [hh0]
      exact whole_start l hflags hbd ⟨B.exec, B.bytes, B.returns, hml, hown, hts, hX, hbl, B.notSynchronized, hgv⟩
    obtain ⟨t, a1, o, b1, b2, b3⟩ := K s₁ rfl X₀
    exact ⟨t, o, a1, b1, b2, b3⟩
theorem lw_pre_spec {args : Array Value} {s : State} (h : (Jvm.Cond.and given_1 narrow_1).before args s = true) (hr : rest_1_c.before args s = true) : ∃ (b : Addr) (xs : List Int32), lw_P b xs args s := by
  have hs := flat_of_before _ h
  have hq := flat_of_before _ hr
  have hc : (Cond.count 1).before args s = true := hs _ (by decide +kernel)
  have harr : (Cond.arrayOf (.arg 0) .int).before args s = true := hs _ (by decide +kernel)
  have hle : (Cond.le (.length (.arg 0)) (.int 2560)).before args s = true := hs _ (by decide +kernel)
  have hlen : (Cond.isInt (.length (.arg 0))).before args s = true := hq _ (by decide +kernel)
  have hall : (Cond.all (.arg 0) (.isInt (.elem (.arg 0) (.index 0)))).before args s = true := hq _ (by decide +kernel)
  obtain ⟨b, xs, hb, hx⟩ := State.ints_of_pre rfl harr hlen hall
  have hsm : xs.length < 2 ^ 31 := hx.choose_spec.2.2.2
  have hev : (Term.length (.arg 0)).eval args s none [] s = some (.int xs.length.toInt32) := hx.length_eval hb
  have hv := Cond.le_ints hev (show (Term.int 2560).eval args s none [] s = some (.int 2560) from rfl)
  have hd : xs.length.toInt32 ≤ 2560 := by
    simpa [Cond.before, Cond.holds, hv] using hle
  have hN : xs.length ≤ 2560 := (Int32.ofNat_le_ofNat hsm (by decide)).mp (show Int32.ofNat xs.length ≤ Int32.ofNat 2560 from hd)
  exact ⟨b, xs, Cond.one_arg hc (show args[0]? = some (.ref b) from hb), hx, hN, h⟩
theorem lw_comes (l : Launch) (hflags : l.flags = flags0) : Comes l x (Jvm.Cond.code x code maxLocals ret :: tables_1) room_1 (fun tb e args s => Calls_1 tb e args s ∧ rest_1 tb e args s ∧ Pre_1 tb e args s)
    (fun _ _ args s o t => lw_Q args s o t) := by
  intro p e ha hc hk s m args below hf hfit hheap happ hpre
  obtain ⟨b, xs, hP⟩ := lw_pre_spec hpre.2.2 hpre.2.1
  obtain ⟨k, o, h1, h2, h3, hQ⟩ := lw_walk l hflags b xs p e ha hc hk s m args below hf ((Spec.applies_iff_loose hf).mp happ).1 hP trivial
  exact ⟨k, o, h1, h2, h3, hQ⟩
theorem lw_frame {s t : State} {o : Outcome} {args : Array Value} (h : Framed s o t [] 633746 7194866) :
    Framed s o t (fieldLocs frame_1_writes args s ++ arrayLocs frame_1_arrays args s ++ staticLocs frame_1_statics s) 633746 7194866 := h
theorem lw_limb (L : Cond) (hL : ∀ (args : Array Value) (s t : State), L.after args s (.returned (some (.int 1))) t = true) :
    ArmFor flags0 classFile x code maxLocals ret World_1 tables_1 room_1 Calls_1 rest_1 Pre_1
      (fun tb e a s o t => postC L tb e a s o t ∧ Framed s o t (fieldLocs frame_1_writes a s ++ arrayLocs frame_1_arrays a s ++ staticLocs frame_1_statics s) 633746 7194866) := by
  intro l hflags _ _ p e ha hc hk s m args below hf hfit hheap happ hpre
  obtain ⟨k, o, h1, h2, h3, rfl, hF⟩ := lw_comes l hflags p e ha hc hk s m args below hf hfit hheap happ hpre
  exact ⟨k, _, h1, h2, h3, hL args s _, lw_frame hF⟩
theorem i_vc : Claimed_1_1 ∧ Claimed_1_2 := ⟨lw_limb limb_1_1 (fun args s t => by simp [limb_1_1, Cond.after, Cond.holds, Cond.value]), lw_limb limb_1_2 (fun args s t => Cond.after_iff.mpr (by
  first | (rw [show limb_1_2 = Cond.eq .result (.int 1) from rfl, Cond.eq_ints (x := 1) (y := 1) rfl rfl]; simp; done) | (simp [limb_1_2, Cond.value, Term.eval]; done)))⟩
