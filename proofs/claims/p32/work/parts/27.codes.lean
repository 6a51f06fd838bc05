theorem f_X5_knownServer_c (M : Mem) (p0 : Int32) : inC [3] (f_X5_knownServer M p0).1 := by
  unfold f_X5_knownServer
  repeat' (first | with_reducible refine bnd_c (fun _ => ?_) | with_reducible refine bnd2_c (fun _ _ => ?_) | with_reducible refine ite_c ?_ ?_ | with_reducible refine opt_c ?_ (fun _ => ?_) | exact Or.inl rfl | exact Or.inr (List.elem_iff.mp rfl))
theorem f_X5_heardServer_c (M : Mem) (p0 : Int32) : inC [3, 2] (f_X5_heardServer M p0).1 := by
  unfold f_X5_heardServer
  repeat' (first | with_reducible refine thn_c (inC.mono (f_X5_knownServer_c _ _) (by decide)) (fun _ _ => ?_) | with_reducible refine bnd_c (fun _ => ?_) | with_reducible refine bnd2_c (fun _ _ => ?_) | with_reducible refine ite_c ?_ ?_ | with_reducible refine opt_c ?_ (fun _ => ?_) | exact Or.inl rfl | exact Or.inr (List.elem_iff.mp rfl))
theorem f_X5_restart_c (M : Mem) (p0 : Int32) : inC [1] (f_X5_restart M p0).1 := by
  unfold f_X5_restart
  repeat' (first | with_reducible refine bnd_c (fun _ => ?_) | with_reducible refine bnd2_c (fun _ _ => ?_) | with_reducible refine ite_c ?_ ?_ | with_reducible refine opt_c ?_ (fun _ => ?_) | exact Or.inl rfl | exact Or.inr (List.elem_iff.mp rfl))
theorem f_X5_pass_c (M : Mem) (p0 : Int32) : inC [1, 2] (f_X5_pass M p0).1 := by
  unfold f_X5_pass
  repeat' (first | with_reducible refine bnd_c (fun _ => ?_) | with_reducible refine bnd2_c (fun _ _ => ?_) | with_reducible refine ite_c ?_ ?_ | with_reducible refine opt_c ?_ (fun _ => ?_) | exact Or.inl rfl | exact Or.inr (List.elem_iff.mp rfl))
theorem f_X5_setDrift_c (M : Mem) (p0 : Int32) : inC [1] (f_X5_setDrift M p0).1 := by
  unfold f_X5_setDrift
  repeat' (first | with_reducible refine bnd_c (fun _ => ?_) | with_reducible refine bnd2_c (fun _ _ => ?_) | with_reducible refine ite_c ?_ ?_ | with_reducible refine opt_c ?_ (fun _ => ?_) | exact Or.inl rfl | exact Or.inr (List.elem_iff.mp rfl))
theorem f_X5_announceLeap_c (M : Mem) (p0 : Int32) (p1 : Int32) : inC [1, 2] (f_X5_announceLeap M p0 p1).1 := by
  unfold f_X5_announceLeap
  repeat' (first | with_reducible refine bnd_c (fun _ => ?_) | with_reducible refine bnd2_c (fun _ _ => ?_) | with_reducible refine ite_c ?_ ?_ | with_reducible refine opt_c ?_ (fun _ => ?_) | exact Or.inl rfl | exact Or.inr (List.elem_iff.mp rfl))
theorem f_X5_addServer_c (M : Mem) (p0 : Int32) (p1 : Int32) (p2 : Int32) (p3 : Int32) : inC [1, 2] (f_X5_addServer M p0 p1 p2 p3).1 := by
  unfold f_X5_addServer
  repeat' (first | with_reducible refine bnd_c (fun _ => ?_) | with_reducible refine bnd2_c (fun _ _ => ?_) | with_reducible refine ite_c ?_ ?_ | with_reducible refine opt_c ?_ (fun _ => ?_) | exact Or.inl rfl | exact Or.inr (List.elem_iff.mp rfl))
theorem f_X5_setError_c (M : Mem) (p0 : Int32) (p1 : Int32) : inC [3, 1] (f_X5_setError M p0 p1).1 := by
  unfold f_X5_setError
  repeat' (first | with_reducible refine thn_c (inC.mono (f_X5_knownServer_c _ _) (by decide)) (fun _ _ => ?_) | with_reducible refine bnd_c (fun _ => ?_) | with_reducible refine bnd2_c (fun _ _ => ?_) | with_reducible refine ite_c ?_ ?_ | with_reducible refine opt_c ?_ (fun _ => ?_) | exact Or.inl rfl | exact Or.inr (List.elem_iff.mp rfl))
theorem f_X5_exchange_c (M : Mem) (p0 : Int32) (p1 : Int32) (p2 : Int32) (p3 : Int32) : inC [3, 1, 2] (f_X5_exchange M p0 p1 p2 p3).1 := by
  unfold f_X5_exchange
  repeat' (first | with_reducible refine thn_c (inC.mono (f_X5_knownServer_c _ _) (by decide)) (fun _ _ => ?_) | with_reducible refine bnd_c (fun _ => ?_) | with_reducible refine bnd2_c (fun _ _ => ?_) | with_reducible refine ite_c ?_ ?_ | with_reducible refine opt_c ?_ (fun _ => ?_) | exact Or.inl rfl | exact Or.inr (List.elem_iff.mp rfl))
theorem f_X5_samples_c (M : Mem) (p0 : Int32) : inC [3] (f_X5_samples M p0).1 := by
  unfold f_X5_samples
  repeat' (first | with_reducible refine thn_c (inC.mono (f_X5_knownServer_c _ _) (by decide)) (fun _ _ => ?_) | with_reducible refine bnd_c (fun _ => ?_) | with_reducible refine bnd2_c (fun _ _ => ?_) | with_reducible refine ite_c ?_ ?_ | with_reducible refine opt_c ?_ (fun _ => ?_) | exact Or.inl rfl | exact Or.inr (List.elem_iff.mp rfl))
theorem f_X5_offset_c (M : Mem) (p0 : Int32) : inC [3, 2] (f_X5_offset M p0).1 := by
  unfold f_X5_offset
  repeat' (first | with_reducible refine thn_c (inC.mono (f_X5_heardServer_c _ _) (by decide)) (fun _ _ => ?_) | with_reducible refine bnd_c (fun _ => ?_) | with_reducible refine bnd2_c (fun _ _ => ?_) | with_reducible refine ite_c ?_ ?_ | with_reducible refine opt_c ?_ (fun _ => ?_) | exact Or.inl rfl | exact Or.inr (List.elem_iff.mp rfl))
theorem f_X5_delay_c (M : Mem) (p0 : Int32) : inC [3, 2] (f_X5_delay M p0).1 := by
  unfold f_X5_delay
  repeat' (first | with_reducible refine thn_c (inC.mono (f_X5_heardServer_c _ _) (by decide)) (fun _ _ => ?_) | with_reducible refine bnd_c (fun _ => ?_) | with_reducible refine bnd2_c (fun _ _ => ?_) | with_reducible refine ite_c ?_ ?_ | with_reducible refine opt_c ?_ (fun _ => ?_) | exact Or.inl rfl | exact Or.inr (List.elem_iff.mp rfl))
theorem f_X5_jitter_c (M : Mem) (p0 : Int32) : inC [3, 2] (f_X5_jitter M p0).1 := by
  unfold f_X5_jitter
  repeat' (first | with_reducible refine thn_c (inC.mono (f_X5_heardServer_c _ _) (by decide)) (fun _ _ => ?_) | with_reducible refine bnd_c (fun _ => ?_) | with_reducible refine bnd2_c (fun _ _ => ?_) | with_reducible refine ite_c ?_ ?_ | with_reducible refine opt_c ?_ (fun _ => ?_) | exact Or.inl rfl | exact Or.inr (List.elem_iff.mp rfl))
theorem f_X5_distance_c (M : Mem) (p0 : Int32) : inC [3, 2] (f_X5_distance M p0).1 := by
  unfold f_X5_distance
  repeat' (first | with_reducible refine thn_c (inC.mono (f_X5_heardServer_c _ _) (by decide)) (fun _ _ => ?_) | with_reducible refine bnd_c (fun _ => ?_) | with_reducible refine bnd2_c (fun _ _ => ?_) | with_reducible refine ite_c ?_ ?_ | with_reducible refine opt_c ?_ (fun _ => ?_) | exact Or.inl rfl | exact Or.inr (List.elem_iff.mp rfl))
theorem f_X5_selectFromSome_c (M : Mem)  : inC [2] (f_X5_selectFromSome M ).1 := by
  unfold f_X5_selectFromSome
  repeat' (first | with_reducible refine bnd_c (fun _ => ?_) | with_reducible refine bnd2_c (fun _ _ => ?_) | with_reducible refine ite_c ?_ ?_ | with_reducible refine opt_c ?_ (fun _ => ?_) | exact Or.inl rfl | exact Or.inr (List.elem_iff.mp rfl))
theorem f_X5_low_c (M : Mem)  : inC [2] (f_X5_low M ).1 := by
  unfold f_X5_low
  repeat' (first | with_reducible refine thv_c (inC.mono (f_X5_selectFromSome_c _) (by decide)) (fun _ => ?_) | with_reducible refine bnd_c (fun _ => ?_) | with_reducible refine bnd2_c (fun _ _ => ?_) | with_reducible refine ite_c ?_ ?_ | with_reducible refine opt_c ?_ (fun _ => ?_) | exact Or.inl rfl | exact Or.inr (List.elem_iff.mp rfl))
theorem f_X5_high_c (M : Mem)  : inC [2] (f_X5_high M ).1 := by
  unfold f_X5_high
  repeat' (first | with_reducible refine thv_c (inC.mono (f_X5_selectFromSome_c _) (by decide)) (fun _ => ?_) | with_reducible refine bnd_c (fun _ => ?_) | with_reducible refine bnd2_c (fun _ _ => ?_) | with_reducible refine ite_c ?_ ?_ | with_reducible refine opt_c ?_ (fun _ => ?_) | exact Or.inl rfl | exact Or.inr (List.elem_iff.mp rfl))
theorem f_X5_combinedOffset_c (M : Mem)  : inC [2] (f_X5_combinedOffset M ).1 := by
  unfold f_X5_combinedOffset
  repeat' (first | with_reducible refine thv_c (inC.mono (f_X5_selectFromSome_c _) (by decide)) (fun _ => ?_) | with_reducible refine bnd_c (fun _ => ?_) | with_reducible refine bnd2_c (fun _ _ => ?_) | with_reducible refine ite_c ?_ ?_ | with_reducible refine opt_c ?_ (fun _ => ?_) | exact Or.inl rfl | exact Or.inr (List.elem_iff.mp rfl))
theorem f_X5_synchronize_c (M : Mem)  : inC [2] (f_X5_synchronize M ).1 := by
  unfold f_X5_synchronize
  repeat' (first | with_reducible refine bnd_c (fun _ => ?_) | with_reducible refine bnd2_c (fun _ _ => ?_) | with_reducible refine ite_c ?_ ?_ | with_reducible refine opt_c ?_ (fun _ => ?_) | exact Or.inl rfl | exact Or.inr (List.elem_iff.mp rfl))
