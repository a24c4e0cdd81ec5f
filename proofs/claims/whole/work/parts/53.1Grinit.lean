abbrev b_Gr_init : ByteArray := prog_3_method_1_code
def y_Gr_init : MethodName := ⟨R_Gr, "<init>", "()V"⟩
def w_Gr_init : List Cond := .code y_Gr_init b_Gr_init 1 none :: TB
theorem k_Gr_init : Cond.code y_Gr_init b_Gr_init 1 none ∈ TB := tb_of 84 (by decide +kernel) (by decide +kernel)
theorem d_Gr_init_0 : decode b_Gr_init 0 = .ok (.aload_n 0, 1) := by decide +kernel
theorem d_Gr_init_1 : decode b_Gr_init 1 = .ok (.invokespecial 3, 3) := by decide +kernel
theorem d_Gr_init_4 : decode b_Gr_init 4 = .ok (.aload_n 0, 1) := by decide +kernel
theorem d_Gr_init_5 : decode b_Gr_init 5 = .ok (.bipush 20, 2) := by decide +kernel
theorem d_Gr_init_7 : decode b_Gr_init 7 = .ok (.newarray .int, 2) := by decide +kernel
theorem d_Gr_init_9 : decode b_Gr_init 9 = .ok (.putfield 9, 3) := by decide +kernel
theorem d_Gr_init_12 : decode b_Gr_init 12 = .ok (.aload_n 0, 1) := by decide +kernel
theorem d_Gr_init_13 : decode b_Gr_init 13 = .ok (.bipush 30, 2) := by decide +kernel
theorem d_Gr_init_15 : decode b_Gr_init 15 = .ok (.newarray .int, 2) := by decide +kernel
theorem d_Gr_init_17 : decode b_Gr_init 17 = .ok (.putfield 15, 3) := by decide +kernel
theorem d_Gr_init_20 : decode b_Gr_init 20 = .ok (.aload_n 0, 1) := by decide +kernel
theorem d_Gr_init_21 : decode b_Gr_init 21 = .ok (.bipush 30, 2) := by decide +kernel
theorem d_Gr_init_23 : decode b_Gr_init 23 = .ok (.newarray .int, 2) := by decide +kernel
theorem d_Gr_init_25 : decode b_Gr_init 25 = .ok (.putfield 18, 3) := by decide +kernel
theorem d_Gr_init_28 : decode b_Gr_init 28 = .ok (.aload_n 0, 1) := by decide +kernel
theorem d_Gr_init_29 : decode b_Gr_init 29 = .ok (.sipush 240, 3) := by decide +kernel
theorem d_Gr_init_32 : decode b_Gr_init 32 = .ok (.newarray .int, 2) := by decide +kernel
theorem d_Gr_init_34 : decode b_Gr_init 34 = .ok (.putfield 21, 3) := by decide +kernel
theorem d_Gr_init_37 : decode b_Gr_init 37 = .ok (.aload_n 0, 1) := by decide +kernel
theorem d_Gr_init_38 : decode b_Gr_init 38 = .ok (.sipush 240, 3) := by decide +kernel
theorem d_Gr_init_41 : decode b_Gr_init 41 = .ok (.newarray .int, 2) := by decide +kernel
theorem d_Gr_init_43 : decode b_Gr_init 43 = .ok (.putfield 24, 3) := by decide +kernel
theorem d_Gr_init_46 : decode b_Gr_init 46 = .ok (.aload_n 0, 1) := by decide +kernel
theorem d_Gr_init_47 : decode b_Gr_init 47 = .ok (.bipush 30, 2) := by decide +kernel
theorem d_Gr_init_49 : decode b_Gr_init 49 = .ok (.newarray .int, 2) := by decide +kernel
theorem d_Gr_init_51 : decode b_Gr_init 51 = .ok (.putfield 27, 3) := by decide +kernel
theorem d_Gr_init_54 : decode b_Gr_init 54 = .ok (.aload_n 0, 1) := by decide +kernel
theorem d_Gr_init_55 : decode b_Gr_init 55 = .ok (.bipush 120, 2) := by decide +kernel
theorem d_Gr_init_57 : decode b_Gr_init 57 = .ok (.newarray .int, 2) := by decide +kernel
theorem d_Gr_init_59 : decode b_Gr_init 59 = .ok (.putfield 30, 3) := by decide +kernel
theorem d_Gr_init_62 : decode b_Gr_init 62 = .ok (.return_, 1) := by decide +kernel
theorem ml_Gr_3 : Cond.methodLink R_Gr 3 objectInit ∈ TB := tb_of 85 (by decide +kernel) (by decide +kernel)
abbrev rm_Gr_init : Room := { frames := 1, cells := 7, slots := 710, locals := 20 }
set_option maxHeartbeats 4000000 in
set_option maxRecDepth 100000 in
theorem c_Gr_init (l : Launch) (D : va_G) (K : Nat → ClassId) (h0 : Nat) : CMet l y_Gr_init w_Gr_init (rm_Gr_init) D classes (tyK K) [.ref h0] [[(h0, .inr (1, [.int 0, .int 0, .int 0, .int 0, .int 0, .null, .null, .null, .null, .null, .null, .null]))]] (fun w1 => ∃ (a_self : Nat → Nat), a_self 0 = h0 ∧ w1 = [wd_Gr K a_self (fun _ _ => 0)]) 7 710 := by
  refine cm_of R_Gr (by decide) rfl rfl rfl (Nat.le_of_ble_eq_true rfl) ?_
  intro p e s m below meth c A X hr hlk hin
  refine gd_loc (lv' := [(0, .ref h0)]) [0] rfl ?_
  refine gd_aload_n X d_Gr_init_0 0 rfl ?_
  refine gd_oinit X (List.mem_cons_of_mem _ ml_Gr_3) (List.mem_cons_of_mem _ oi_2) (List.mem_cons_of_mem _ oi_3) (Nat.le_of_ble_eq_true rfl) (Nat.le_of_ble_eq_true rfl) d_Gr_init_1 ?_
  refine gd_aload_n X d_Gr_init_4 0 rfl ?_
  refine gd_bipush X (v := 20) d_Gr_init_5 (by decide) ?_
  refine gd_newa X (a0 := (20, .inl (fun _ => 0))) 0 rfl rfl (fun _ z => z) (fun _ => rfl) (List.mem_cons_of_mem _ ac_int) (by decide) (by decide) (Nat.le_of_ble_eq_true rfl) (Nat.le_of_ble_eq_true rfl) (Nat.le_of_ble_eq_true rfl) d_Gr_init_7 (fun q1 => ?_)
  refine gd_wid (w' := [[(h0, .inr (1, [.int 0, .int 0, .int 0, .int 0, .int 0, .null, .null, .null, .null, .null, .null, .null]))], [(q1, .inl (K 0, 20, .inl (fun _ => 0)))]]) rfl ?_
  refine gd_putF X (ci := 1) (C := R_Gr) (T := F_Gr) (N := 12) (ty := (.array .int)) (w' := [[(h0, .inr (1, [.int 0, .int 0, .int 0, .int 0, .int 0, .ref q1, .null, .null, .null, .null, .null, .null]))], [(q1, .inl (K 0, 20, .inl (fun _ => 0)))]]) hin 0 0 rfl rfl rfl (in_Gr _) t_Gr t_Gr_ok n_Gr 5 (by decide) (List.mem_cons_of_mem _ fl_Gr_9) rfl rfl rfl (by decide +kernel) rfl rfl (Nat.le_of_ble_eq_true rfl) d_Gr_init_9 rfl ?_
  refine gd_aload_n X d_Gr_init_12 0 rfl ?_
  refine gd_bipush X (v := 30) d_Gr_init_13 (by decide) ?_
  refine gd_newa X (a0 := (30, .inl (fun _ => 0))) 0 rfl rfl (fun _ z => z) (fun _ => rfl) (List.mem_cons_of_mem _ ac_int) (by decide) (by decide) (Nat.le_of_ble_eq_true rfl) (Nat.le_of_ble_eq_true rfl) (Nat.le_of_ble_eq_true rfl) d_Gr_init_15 (fun q2 => ?_)
  refine gd_wid (w' := [[(h0, .inr (1, [.int 0, .int 0, .int 0, .int 0, .int 0, .ref q1, .null, .null, .null, .null, .null, .null]))], [(q1, .inl (K 0, 20, .inl (fun _ => 0)))], [(q2, .inl (K 0, 30, .inl (fun _ => 0)))]]) rfl ?_
  refine gd_putF X (ci := 1) (C := R_Gr) (T := F_Gr) (N := 12) (ty := (.array .int)) (w' := [[(h0, .inr (1, [.int 0, .int 0, .int 0, .int 0, .int 0, .ref q1, .ref q2, .null, .null, .null, .null, .null]))], [(q1, .inl (K 0, 20, .inl (fun _ => 0)))], [(q2, .inl (K 0, 30, .inl (fun _ => 0)))]]) hin 0 0 rfl rfl rfl (in_Gr _) t_Gr t_Gr_ok n_Gr 6 (by decide) (List.mem_cons_of_mem _ fl_Gr_15) rfl rfl rfl (by decide +kernel) rfl rfl (Nat.le_of_ble_eq_true rfl) d_Gr_init_17 rfl ?_
  refine gd_aload_n X d_Gr_init_20 0 rfl ?_
  refine gd_bipush X (v := 30) d_Gr_init_21 (by decide) ?_
  refine gd_newa X (a0 := (30, .inl (fun _ => 0))) 0 rfl rfl (fun _ z => z) (fun _ => rfl) (List.mem_cons_of_mem _ ac_int) (by decide) (by decide) (Nat.le_of_ble_eq_true rfl) (Nat.le_of_ble_eq_true rfl) (Nat.le_of_ble_eq_true rfl) d_Gr_init_23 (fun q3 => ?_)
  refine gd_wid (w' := [[(h0, .inr (1, [.int 0, .int 0, .int 0, .int 0, .int 0, .ref q1, .ref q2, .null, .null, .null, .null, .null]))], [(q1, .inl (K 0, 20, .inl (fun _ => 0)))], [(q2, .inl (K 0, 30, .inl (fun _ => 0)))], [(q3, .inl (K 0, 30, .inl (fun _ => 0)))]]) rfl ?_
  refine gd_putF X (ci := 1) (C := R_Gr) (T := F_Gr) (N := 12) (ty := (.array .int)) (w' := [[(h0, .inr (1, [.int 0, .int 0, .int 0, .int 0, .int 0, .ref q1, .ref q2, .ref q3, .null, .null, .null, .null]))], [(q1, .inl (K 0, 20, .inl (fun _ => 0)))], [(q2, .inl (K 0, 30, .inl (fun _ => 0)))], [(q3, .inl (K 0, 30, .inl (fun _ => 0)))]]) hin 0 0 rfl rfl rfl (in_Gr _) t_Gr t_Gr_ok n_Gr 7 (by decide) (List.mem_cons_of_mem _ fl_Gr_18) rfl rfl rfl (by decide +kernel) rfl rfl (Nat.le_of_ble_eq_true rfl) d_Gr_init_25 rfl ?_
  refine gd_aload_n X d_Gr_init_28 0 rfl ?_
  refine gd_sipush X (v := 240) d_Gr_init_29 (by decide) ?_
  refine gd_newa X (a0 := (240, .inl (fun _ => 0))) 0 rfl rfl (fun _ z => z) (fun _ => rfl) (List.mem_cons_of_mem _ ac_int) (by decide) (by decide) (Nat.le_of_ble_eq_true rfl) (Nat.le_of_ble_eq_true rfl) (Nat.le_of_ble_eq_true rfl) d_Gr_init_32 (fun q4 => ?_)
  refine gd_wid (w' := [[(h0, .inr (1, [.int 0, .int 0, .int 0, .int 0, .int 0, .ref q1, .ref q2, .ref q3, .null, .null, .null, .null]))], [(q1, .inl (K 0, 20, .inl (fun _ => 0)))], [(q2, .inl (K 0, 30, .inl (fun _ => 0)))], [(q3, .inl (K 0, 30, .inl (fun _ => 0)))], [(q4, .inl (K 0, 240, .inl (fun _ => 0)))]]) rfl ?_
  refine gd_putF X (ci := 1) (C := R_Gr) (T := F_Gr) (N := 12) (ty := (.array .int)) (w' := [[(h0, .inr (1, [.int 0, .int 0, .int 0, .int 0, .int 0, .ref q1, .ref q2, .ref q3, .ref q4, .null, .null, .null]))], [(q1, .inl (K 0, 20, .inl (fun _ => 0)))], [(q2, .inl (K 0, 30, .inl (fun _ => 0)))], [(q3, .inl (K 0, 30, .inl (fun _ => 0)))], [(q4, .inl (K 0, 240, .inl (fun _ => 0)))]]) hin 0 0 rfl rfl rfl (in_Gr _) t_Gr t_Gr_ok n_Gr 8 (by decide) (List.mem_cons_of_mem _ fl_Gr_21) rfl rfl rfl (by decide +kernel) rfl rfl (Nat.le_of_ble_eq_true rfl) d_Gr_init_34 rfl ?_
  refine gd_aload_n X d_Gr_init_37 0 rfl ?_
  refine gd_sipush X (v := 240) d_Gr_init_38 (by decide) ?_
  refine gd_newa X (a0 := (240, .inl (fun _ => 0))) 0 rfl rfl (fun _ z => z) (fun _ => rfl) (List.mem_cons_of_mem _ ac_int) (by decide) (by decide) (Nat.le_of_ble_eq_true rfl) (Nat.le_of_ble_eq_true rfl) (Nat.le_of_ble_eq_true rfl) d_Gr_init_41 (fun q5 => ?_)
  refine gd_wid (w' := [[(h0, .inr (1, [.int 0, .int 0, .int 0, .int 0, .int 0, .ref q1, .ref q2, .ref q3, .ref q4, .null, .null, .null]))], [(q1, .inl (K 0, 20, .inl (fun _ => 0)))], [(q2, .inl (K 0, 30, .inl (fun _ => 0)))], [(q3, .inl (K 0, 30, .inl (fun _ => 0)))], [(q4, .inl (K 0, 240, .inl (fun _ => 0)))], [(q5, .inl (K 0, 240, .inl (fun _ => 0)))]]) rfl ?_
  refine gd_putF X (ci := 1) (C := R_Gr) (T := F_Gr) (N := 12) (ty := (.array .int)) (w' := [[(h0, .inr (1, [.int 0, .int 0, .int 0, .int 0, .int 0, .ref q1, .ref q2, .ref q3, .ref q4, .ref q5, .null, .null]))], [(q1, .inl (K 0, 20, .inl (fun _ => 0)))], [(q2, .inl (K 0, 30, .inl (fun _ => 0)))], [(q3, .inl (K 0, 30, .inl (fun _ => 0)))], [(q4, .inl (K 0, 240, .inl (fun _ => 0)))], [(q5, .inl (K 0, 240, .inl (fun _ => 0)))]]) hin 0 0 rfl rfl rfl (in_Gr _) t_Gr t_Gr_ok n_Gr 9 (by decide) (List.mem_cons_of_mem _ fl_Gr_24) rfl rfl rfl (by decide +kernel) rfl rfl (Nat.le_of_ble_eq_true rfl) d_Gr_init_43 rfl ?_
  refine gd_aload_n X d_Gr_init_46 0 rfl ?_
  refine gd_bipush X (v := 30) d_Gr_init_47 (by decide) ?_
  refine gd_newa X (a0 := (30, .inl (fun _ => 0))) 0 rfl rfl (fun _ z => z) (fun _ => rfl) (List.mem_cons_of_mem _ ac_int) (by decide) (by decide) (Nat.le_of_ble_eq_true rfl) (Nat.le_of_ble_eq_true rfl) (Nat.le_of_ble_eq_true rfl) d_Gr_init_49 (fun q6 => ?_)
  refine gd_wid (w' := [[(h0, .inr (1, [.int 0, .int 0, .int 0, .int 0, .int 0, .ref q1, .ref q2, .ref q3, .ref q4, .ref q5, .null, .null]))], [(q1, .inl (K 0, 20, .inl (fun _ => 0)))], [(q2, .inl (K 0, 30, .inl (fun _ => 0)))], [(q3, .inl (K 0, 30, .inl (fun _ => 0)))], [(q4, .inl (K 0, 240, .inl (fun _ => 0)))], [(q5, .inl (K 0, 240, .inl (fun _ => 0)))], [(q6, .inl (K 0, 30, .inl (fun _ => 0)))]]) rfl ?_
  refine gd_putF X (ci := 1) (C := R_Gr) (T := F_Gr) (N := 12) (ty := (.array .int)) (w' := [[(h0, .inr (1, [.int 0, .int 0, .int 0, .int 0, .int 0, .ref q1, .ref q2, .ref q3, .ref q4, .ref q5, .ref q6, .null]))], [(q1, .inl (K 0, 20, .inl (fun _ => 0)))], [(q2, .inl (K 0, 30, .inl (fun _ => 0)))], [(q3, .inl (K 0, 30, .inl (fun _ => 0)))], [(q4, .inl (K 0, 240, .inl (fun _ => 0)))], [(q5, .inl (K 0, 240, .inl (fun _ => 0)))], [(q6, .inl (K 0, 30, .inl (fun _ => 0)))]]) hin 0 0 rfl rfl rfl (in_Gr _) t_Gr t_Gr_ok n_Gr 10 (by decide) (List.mem_cons_of_mem _ fl_Gr_27) rfl rfl rfl (by decide +kernel) rfl rfl (Nat.le_of_ble_eq_true rfl) d_Gr_init_51 rfl ?_
  refine gd_aload_n X d_Gr_init_54 0 rfl ?_
  refine gd_bipush X (v := 120) d_Gr_init_55 (by decide) ?_
  refine gd_newa X (a0 := (120, .inl (fun _ => 0))) 0 rfl rfl (fun _ z => z) (fun _ => rfl) (List.mem_cons_of_mem _ ac_int) (by decide) (by decide) (Nat.le_of_ble_eq_true rfl) (Nat.le_of_ble_eq_true rfl) (Nat.le_of_ble_eq_true rfl) d_Gr_init_57 (fun q7 => ?_)
  refine gd_wid (w' := [[(h0, .inr (1, [.int 0, .int 0, .int 0, .int 0, .int 0, .ref q1, .ref q2, .ref q3, .ref q4, .ref q5, .ref q6, .null]))], [(q1, .inl (K 0, 20, .inl (fun _ => 0)))], [(q2, .inl (K 0, 30, .inl (fun _ => 0)))], [(q3, .inl (K 0, 30, .inl (fun _ => 0)))], [(q4, .inl (K 0, 240, .inl (fun _ => 0)))], [(q5, .inl (K 0, 240, .inl (fun _ => 0)))], [(q6, .inl (K 0, 30, .inl (fun _ => 0)))], [(q7, .inl (K 0, 120, .inl (fun _ => 0)))]]) rfl ?_
  refine gd_putF X (ci := 1) (C := R_Gr) (T := F_Gr) (N := 12) (ty := (.array .int)) (w' := [[(h0, .inr (1, [.int 0, .int 0, .int 0, .int 0, .int 0, .ref q1, .ref q2, .ref q3, .ref q4, .ref q5, .ref q6, .ref q7]))], [(q1, .inl (K 0, 20, .inl (fun _ => 0)))], [(q2, .inl (K 0, 30, .inl (fun _ => 0)))], [(q3, .inl (K 0, 30, .inl (fun _ => 0)))], [(q4, .inl (K 0, 240, .inl (fun _ => 0)))], [(q5, .inl (K 0, 240, .inl (fun _ => 0)))], [(q6, .inl (K 0, 30, .inl (fun _ => 0)))], [(q7, .inl (K 0, 120, .inl (fun _ => 0)))]]) hin 0 0 rfl rfl rfl (in_Gr _) t_Gr t_Gr_ok n_Gr 11 (by decide) (List.mem_cons_of_mem _ fl_Gr_30) rfl rfl rfl (by decide +kernel) rfl rfl (Nat.le_of_ble_eq_true rfl) d_Gr_init_59 rfl ?_
  refine gd_weq (w' := [wd_Gr K (fun k => match k with | 0 => h0 | 1 => q1 | 2 => q2 | 3 => q3 | 4 => q4 | 5 => q5 | 6 => q6 | 7 => q7 | _ => h0) (fun _ _ => 0)]) rfl ?_
  refine gd_widen (k := 7) (n := 710) (Nat.le_of_ble_eq_true rfl) (Nat.le_of_ble_eq_true rfl) ?_
  exact gd_vretC X ⟨(fun k => match k with | 0 => h0 | 1 => q1 | 2 => q2 | 3 => q3 | 4 => q4 | 5 => q5 | 6 => q6 | 7 => q7 | _ => h0), rfl, rfl⟩ hr hlk d_Gr_init_62
