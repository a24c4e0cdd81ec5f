abbrev b_Tt_init : ByteArray := prog_7_method_1_code
def y_Tt_init : MethodName := ⟨R_Tt, "<init>", "()V"⟩
def w_Tt_init : List Cond := .code y_Tt_init b_Tt_init 1 none :: TB
theorem k_Tt_init : Cond.code y_Tt_init b_Tt_init 1 none ∈ TB := tb_of 139 (by decide +kernel) (by decide +kernel)
theorem d_Tt_init_0 : decode b_Tt_init 0 = .ok (.aload_n 0, 1) := by decide +kernel
theorem d_Tt_init_1 : decode b_Tt_init 1 = .ok (.invokespecial 3, 3) := by decide +kernel
theorem d_Tt_init_4 : decode b_Tt_init 4 = .ok (.aload_n 0, 1) := by decide +kernel
theorem d_Tt_init_5 : decode b_Tt_init 5 = .ok (.sipush 937, 3) := by decide +kernel
theorem d_Tt_init_8 : decode b_Tt_init 8 = .ok (.newarray .int, 2) := by decide +kernel
theorem d_Tt_init_10 : decode b_Tt_init 10 = .ok (.putfield 11, 3) := by decide +kernel
theorem d_Tt_init_13 : decode b_Tt_init 13 = .ok (.aload_n 0, 1) := by decide +kernel
theorem d_Tt_init_14 : decode b_Tt_init 14 = .ok (.sipush 937, 3) := by decide +kernel
theorem d_Tt_init_17 : decode b_Tt_init 17 = .ok (.newarray .int, 2) := by decide +kernel
theorem d_Tt_init_19 : decode b_Tt_init 19 = .ok (.putfield 15, 3) := by decide +kernel
theorem d_Tt_init_22 : decode b_Tt_init 22 = .ok (.aload_n 0, 1) := by decide +kernel
theorem d_Tt_init_23 : decode b_Tt_init 23 = .ok (.sipush 937, 3) := by decide +kernel
theorem d_Tt_init_26 : decode b_Tt_init 26 = .ok (.newarray .int, 2) := by decide +kernel
theorem d_Tt_init_28 : decode b_Tt_init 28 = .ok (.putfield 18, 3) := by decide +kernel
theorem d_Tt_init_31 : decode b_Tt_init 31 = .ok (.aload_n 0, 1) := by decide +kernel
theorem d_Tt_init_32 : decode b_Tt_init 32 = .ok (.sipush 3748, 3) := by decide +kernel
theorem d_Tt_init_35 : decode b_Tt_init 35 = .ok (.newarray .int, 2) := by decide +kernel
theorem d_Tt_init_37 : decode b_Tt_init 37 = .ok (.putfield 21, 3) := by decide +kernel
theorem d_Tt_init_40 : decode b_Tt_init 40 = .ok (.aload_n 0, 1) := by decide +kernel
theorem d_Tt_init_41 : decode b_Tt_init 41 = .ok (.sipush 150, 3) := by decide +kernel
theorem d_Tt_init_44 : decode b_Tt_init 44 = .ok (.newarray .int, 2) := by decide +kernel
theorem d_Tt_init_46 : decode b_Tt_init 46 = .ok (.putfield 24, 3) := by decide +kernel
theorem d_Tt_init_49 : decode b_Tt_init 49 = .ok (.aload_n 0, 1) := by decide +kernel
theorem d_Tt_init_50 : decode b_Tt_init 50 = .ok (.sipush 150, 3) := by decide +kernel
theorem d_Tt_init_53 : decode b_Tt_init 53 = .ok (.newarray .int, 2) := by decide +kernel
theorem d_Tt_init_55 : decode b_Tt_init 55 = .ok (.putfield 27, 3) := by decide +kernel
theorem d_Tt_init_58 : decode b_Tt_init 58 = .ok (.return_, 1) := by decide +kernel
theorem ml_Tt_3 : Cond.methodLink R_Tt 3 objectInit ∈ TB := tb_of 140 (by decide +kernel) (by decide +kernel)
abbrev rm_Tt_init : Room := { frames := 1, cells := 6, slots := 6859, locals := 20 }
set_option maxHeartbeats 4000000 in
set_option maxRecDepth 100000 in
theorem c_Tt_init (l : Launch) (D : va_G) (K : Nat → ClassId) (h0 : Nat) : CMet l y_Tt_init w_Tt_init (rm_Tt_init) D classes (tyK K) [.ref h0] [[(h0, .inr (2, [.null, .null, .null, .null, .null, .null]))]] (fun w1 => ∃ (a_self : Nat → Nat), a_self 0 = h0 ∧ w1 = [wd_Tt K a_self (fun _ _ => 0)]) 6 6859 := by
  refine cm_of R_Tt (by decide) rfl rfl rfl (Nat.le_of_ble_eq_true rfl) ?_
  intro p e s m below meth c A X hr hlk hin
  refine gd_loc (lv' := [(0, .ref h0)]) [0] rfl ?_
  refine gd_aload_n X d_Tt_init_0 0 rfl ?_
  refine gd_oinit X (List.mem_cons_of_mem _ ml_Tt_3) (List.mem_cons_of_mem _ oi_2) (List.mem_cons_of_mem _ oi_3) (Nat.le_of_ble_eq_true rfl) (Nat.le_of_ble_eq_true rfl) d_Tt_init_1 ?_
  refine gd_aload_n X d_Tt_init_4 0 rfl ?_
  refine gd_sipush X (v := 937) d_Tt_init_5 (by decide) ?_
  refine gd_newa X (a0 := (937, .inl (fun _ => 0))) 0 rfl rfl (fun _ z => z) (fun _ => rfl) (List.mem_cons_of_mem _ ac_int) (by decide) (by decide) (Nat.le_of_ble_eq_true rfl) (Nat.le_of_ble_eq_true rfl) (Nat.le_of_ble_eq_true rfl) d_Tt_init_8 (fun q1 => ?_)
  refine gd_wid (w' := [[(h0, .inr (2, [.null, .null, .null, .null, .null, .null]))], [(q1, .inl (K 0, 937, .inl (fun _ => 0)))]]) rfl ?_
  refine gd_putF X (ci := 2) (C := R_Tt) (T := F_Tt) (N := 6) (ty := (.array .int)) (w' := [[(h0, .inr (2, [.ref q1, .null, .null, .null, .null, .null]))], [(q1, .inl (K 0, 937, .inl (fun _ => 0)))]]) hin 0 0 rfl rfl rfl (in_Tt _) t_Tt t_Tt_ok n_Tt 0 (by decide) (List.mem_cons_of_mem _ fl_Tt_11) rfl rfl rfl (by decide +kernel) rfl rfl (Nat.le_of_ble_eq_true rfl) d_Tt_init_10 rfl ?_
  refine gd_aload_n X d_Tt_init_13 0 rfl ?_
  refine gd_sipush X (v := 937) d_Tt_init_14 (by decide) ?_
  refine gd_newa X (a0 := (937, .inl (fun _ => 0))) 0 rfl rfl (fun _ z => z) (fun _ => rfl) (List.mem_cons_of_mem _ ac_int) (by decide) (by decide) (Nat.le_of_ble_eq_true rfl) (Nat.le_of_ble_eq_true rfl) (Nat.le_of_ble_eq_true rfl) d_Tt_init_17 (fun q2 => ?_)
  refine gd_wid (w' := [[(h0, .inr (2, [.ref q1, .null, .null, .null, .null, .null]))], [(q1, .inl (K 0, 937, .inl (fun _ => 0)))], [(q2, .inl (K 0, 937, .inl (fun _ => 0)))]]) rfl ?_
  refine gd_putF X (ci := 2) (C := R_Tt) (T := F_Tt) (N := 6) (ty := (.array .int)) (w' := [[(h0, .inr (2, [.ref q1, .ref q2, .null, .null, .null, .null]))], [(q1, .inl (K 0, 937, .inl (fun _ => 0)))], [(q2, .inl (K 0, 937, .inl (fun _ => 0)))]]) hin 0 0 rfl rfl rfl (in_Tt _) t_Tt t_Tt_ok n_Tt 1 (by decide) (List.mem_cons_of_mem _ fl_Tt_15) rfl rfl rfl (by decide +kernel) rfl rfl (Nat.le_of_ble_eq_true rfl) d_Tt_init_19 rfl ?_
  refine gd_aload_n X d_Tt_init_22 0 rfl ?_
  refine gd_sipush X (v := 937) d_Tt_init_23 (by decide) ?_
  refine gd_newa X (a0 := (937, .inl (fun _ => 0))) 0 rfl rfl (fun _ z => z) (fun _ => rfl) (List.mem_cons_of_mem _ ac_int) (by decide) (by decide) (Nat.le_of_ble_eq_true rfl) (Nat.le_of_ble_eq_true rfl) (Nat.le_of_ble_eq_true rfl) d_Tt_init_26 (fun q3 => ?_)
  refine gd_wid (w' := [[(h0, .inr (2, [.ref q1, .ref q2, .null, .null, .null, .null]))], [(q1, .inl (K 0, 937, .inl (fun _ => 0)))], [(q2, .inl (K 0, 937, .inl (fun _ => 0)))], [(q3, .inl (K 0, 937, .inl (fun _ => 0)))]]) rfl ?_
  refine gd_putF X (ci := 2) (C := R_Tt) (T := F_Tt) (N := 6) (ty := (.array .int)) (w' := [[(h0, .inr (2, [.ref q1, .ref q2, .ref q3, .null, .null, .null]))], [(q1, .inl (K 0, 937, .inl (fun _ => 0)))], [(q2, .inl (K 0, 937, .inl (fun _ => 0)))], [(q3, .inl (K 0, 937, .inl (fun _ => 0)))]]) hin 0 0 rfl rfl rfl (in_Tt _) t_Tt t_Tt_ok n_Tt 2 (by decide) (List.mem_cons_of_mem _ fl_Tt_18) rfl rfl rfl (by decide +kernel) rfl rfl (Nat.le_of_ble_eq_true rfl) d_Tt_init_28 rfl ?_
  refine gd_aload_n X d_Tt_init_31 0 rfl ?_
  refine gd_sipush X (v := 3748) d_Tt_init_32 (by decide) ?_
  refine gd_newa X (a0 := (3748, .inl (fun _ => 0))) 0 rfl rfl (fun _ z => z) (fun _ => rfl) (List.mem_cons_of_mem _ ac_int) (by decide) (by decide) (Nat.le_of_ble_eq_true rfl) (Nat.le_of_ble_eq_true rfl) (Nat.le_of_ble_eq_true rfl) d_Tt_init_35 (fun q4 => ?_)
  refine gd_wid (w' := [[(h0, .inr (2, [.ref q1, .ref q2, .ref q3, .null, .null, .null]))], [(q1, .inl (K 0, 937, .inl (fun _ => 0)))], [(q2, .inl (K 0, 937, .inl (fun _ => 0)))], [(q3, .inl (K 0, 937, .inl (fun _ => 0)))], [(q4, .inl (K 0, 3748, .inl (fun _ => 0)))]]) rfl ?_
  refine gd_putF X (ci := 2) (C := R_Tt) (T := F_Tt) (N := 6) (ty := (.array .int)) (w' := [[(h0, .inr (2, [.ref q1, .ref q2, .ref q3, .ref q4, .null, .null]))], [(q1, .inl (K 0, 937, .inl (fun _ => 0)))], [(q2, .inl (K 0, 937, .inl (fun _ => 0)))], [(q3, .inl (K 0, 937, .inl (fun _ => 0)))], [(q4, .inl (K 0, 3748, .inl (fun _ => 0)))]]) hin 0 0 rfl rfl rfl (in_Tt _) t_Tt t_Tt_ok n_Tt 3 (by decide) (List.mem_cons_of_mem _ fl_Tt_21) rfl rfl rfl (by decide +kernel) rfl rfl (Nat.le_of_ble_eq_true rfl) d_Tt_init_37 rfl ?_
  refine gd_aload_n X d_Tt_init_40 0 rfl ?_
  refine gd_sipush X (v := 150) d_Tt_init_41 (by decide) ?_
  refine gd_newa X (a0 := (150, .inl (fun _ => 0))) 0 rfl rfl (fun _ z => z) (fun _ => rfl) (List.mem_cons_of_mem _ ac_int) (by decide) (by decide) (Nat.le_of_ble_eq_true rfl) (Nat.le_of_ble_eq_true rfl) (Nat.le_of_ble_eq_true rfl) d_Tt_init_44 (fun q5 => ?_)
  refine gd_wid (w' := [[(h0, .inr (2, [.ref q1, .ref q2, .ref q3, .ref q4, .null, .null]))], [(q1, .inl (K 0, 937, .inl (fun _ => 0)))], [(q2, .inl (K 0, 937, .inl (fun _ => 0)))], [(q3, .inl (K 0, 937, .inl (fun _ => 0)))], [(q4, .inl (K 0, 3748, .inl (fun _ => 0)))], [(q5, .inl (K 0, 150, .inl (fun _ => 0)))]]) rfl ?_
  refine gd_putF X (ci := 2) (C := R_Tt) (T := F_Tt) (N := 6) (ty := (.array .int)) (w' := [[(h0, .inr (2, [.ref q1, .ref q2, .ref q3, .ref q4, .ref q5, .null]))], [(q1, .inl (K 0, 937, .inl (fun _ => 0)))], [(q2, .inl (K 0, 937, .inl (fun _ => 0)))], [(q3, .inl (K 0, 937, .inl (fun _ => 0)))], [(q4, .inl (K 0, 3748, .inl (fun _ => 0)))], [(q5, .inl (K 0, 150, .inl (fun _ => 0)))]]) hin 0 0 rfl rfl rfl (in_Tt _) t_Tt t_Tt_ok n_Tt 4 (by decide) (List.mem_cons_of_mem _ fl_Tt_24) rfl rfl rfl (by decide +kernel) rfl rfl (Nat.le_of_ble_eq_true rfl) d_Tt_init_46 rfl ?_
  refine gd_aload_n X d_Tt_init_49 0 rfl ?_
  refine gd_sipush X (v := 150) d_Tt_init_50 (by decide) ?_
  refine gd_newa X (a0 := (150, .inl (fun _ => 0))) 0 rfl rfl (fun _ z => z) (fun _ => rfl) (List.mem_cons_of_mem _ ac_int) (by decide) (by decide) (Nat.le_of_ble_eq_true rfl) (Nat.le_of_ble_eq_true rfl) (Nat.le_of_ble_eq_true rfl) d_Tt_init_53 (fun q6 => ?_)
  refine gd_wid (w' := [[(h0, .inr (2, [.ref q1, .ref q2, .ref q3, .ref q4, .ref q5, .null]))], [(q1, .inl (K 0, 937, .inl (fun _ => 0)))], [(q2, .inl (K 0, 937, .inl (fun _ => 0)))], [(q3, .inl (K 0, 937, .inl (fun _ => 0)))], [(q4, .inl (K 0, 3748, .inl (fun _ => 0)))], [(q5, .inl (K 0, 150, .inl (fun _ => 0)))], [(q6, .inl (K 0, 150, .inl (fun _ => 0)))]]) rfl ?_
  refine gd_putF X (ci := 2) (C := R_Tt) (T := F_Tt) (N := 6) (ty := (.array .int)) (w' := [[(h0, .inr (2, [.ref q1, .ref q2, .ref q3, .ref q4, .ref q5, .ref q6]))], [(q1, .inl (K 0, 937, .inl (fun _ => 0)))], [(q2, .inl (K 0, 937, .inl (fun _ => 0)))], [(q3, .inl (K 0, 937, .inl (fun _ => 0)))], [(q4, .inl (K 0, 3748, .inl (fun _ => 0)))], [(q5, .inl (K 0, 150, .inl (fun _ => 0)))], [(q6, .inl (K 0, 150, .inl (fun _ => 0)))]]) hin 0 0 rfl rfl rfl (in_Tt _) t_Tt t_Tt_ok n_Tt 5 (by decide) (List.mem_cons_of_mem _ fl_Tt_27) rfl rfl rfl (by decide +kernel) rfl rfl (Nat.le_of_ble_eq_true rfl) d_Tt_init_55 rfl ?_
  refine gd_weq (w' := [wd_Tt K (fun k => match k with | 0 => h0 | 1 => q1 | 2 => q2 | 3 => q3 | 4 => q4 | 5 => q5 | 6 => q6 | _ => h0) (fun _ _ => 0)]) rfl ?_
  refine gd_widen (k := 6) (n := 6859) (Nat.le_of_ble_eq_true rfl) (Nat.le_of_ble_eq_true rfl) ?_
  exact gd_vretC X ⟨(fun k => match k with | 0 => h0 | 1 => q1 | 2 => q2 | 3 => q3 | 4 => q4 | 5 => q5 | 6 => q6 | _ => h0), rfl, rfl⟩ hr hlk d_Tt_init_58
