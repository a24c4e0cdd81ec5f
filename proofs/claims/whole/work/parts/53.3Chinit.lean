abbrev b_Ch_init : ByteArray := prog_2_method_1_code
def y_Ch_init : MethodName := ⟨R_Ch, "<init>", "(LRuleTrees$Grammar;)V"⟩
def w_Ch_init : List Cond := .code y_Ch_init b_Ch_init 2 none :: TB
theorem k_Ch_init : Cond.code y_Ch_init b_Ch_init 2 none ∈ TB := tb_of 133 (by decide +kernel) (by decide +kernel)
theorem d_Ch_init_0 : decode b_Ch_init 0 = .ok (.aload_n 0, 1) := by decide +kernel
theorem d_Ch_init_1 : decode b_Ch_init 1 = .ok (.invokespecial 3, 3) := by decide +kernel
theorem d_Ch_init_4 : decode b_Ch_init 4 = .ok (.aload_n 0, 1) := by decide +kernel
theorem d_Ch_init_5 : decode b_Ch_init 5 = .ok (.aload_n 1, 1) := by decide +kernel
theorem d_Ch_init_6 : decode b_Ch_init 6 = .ok (.putfield 9, 3) := by decide +kernel
theorem d_Ch_init_9 : decode b_Ch_init 9 = .ok (.aload_n 0, 1) := by decide +kernel
theorem d_Ch_init_10 : decode b_Ch_init 10 = .ok (.new 15, 3) := by decide +kernel
theorem d_Ch_init_13 : decode b_Ch_init 13 = .ok (.dup, 1) := by decide +kernel
theorem d_Ch_init_14 : decode b_Ch_init 14 = .ok (.invokespecial 17, 3) := by decide +kernel
theorem d_Ch_init_17 : decode b_Ch_init 17 = .ok (.putfield 18, 3) := by decide +kernel
theorem d_Ch_init_20 : decode b_Ch_init 20 = .ok (.aload_n 0, 1) := by decide +kernel
theorem d_Ch_init_21 : decode b_Ch_init 21 = .ok (.sipush 468, 3) := by decide +kernel
theorem d_Ch_init_24 : decode b_Ch_init 24 = .ok (.newarray .int, 2) := by decide +kernel
theorem d_Ch_init_26 : decode b_Ch_init 26 = .ok (.putfield 22, 3) := by decide +kernel
theorem d_Ch_init_29 : decode b_Ch_init 29 = .ok (.aload_n 0, 1) := by decide +kernel
theorem d_Ch_init_30 : decode b_Ch_init 30 = .ok (.bipush 12, 2) := by decide +kernel
theorem d_Ch_init_32 : decode b_Ch_init 32 = .ok (.newarray .int, 2) := by decide +kernel
theorem d_Ch_init_34 : decode b_Ch_init 34 = .ok (.putfield 26, 3) := by decide +kernel
theorem d_Ch_init_37 : decode b_Ch_init 37 = .ok (.aload_n 0, 1) := by decide +kernel
theorem d_Ch_init_38 : decode b_Ch_init 38 = .ok (.bipush 30, 2) := by decide +kernel
theorem d_Ch_init_40 : decode b_Ch_init 40 = .ok (.newarray .int, 2) := by decide +kernel
theorem d_Ch_init_42 : decode b_Ch_init 42 = .ok (.putfield 29, 3) := by decide +kernel
theorem d_Ch_init_45 : decode b_Ch_init 45 = .ok (.aload_n 0, 1) := by decide +kernel
theorem d_Ch_init_46 : decode b_Ch_init 46 = .ok (.bipush 6, 2) := by decide +kernel
theorem d_Ch_init_48 : decode b_Ch_init 48 = .ok (.newarray .int, 2) := by decide +kernel
theorem d_Ch_init_50 : decode b_Ch_init 50 = .ok (.putfield 32, 3) := by decide +kernel
theorem d_Ch_init_53 : decode b_Ch_init 53 = .ok (.aload_n 0, 1) := by decide +kernel
theorem d_Ch_init_54 : decode b_Ch_init 54 = .ok (.iconst 4, 1) := by decide +kernel
theorem d_Ch_init_55 : decode b_Ch_init 55 = .ok (.newarray .int, 2) := by decide +kernel
theorem d_Ch_init_57 : decode b_Ch_init 57 = .ok (.putfield 35, 3) := by decide +kernel
theorem d_Ch_init_60 : decode b_Ch_init 60 = .ok (.aload_n 0, 1) := by decide +kernel
theorem d_Ch_init_61 : decode b_Ch_init 61 = .ok (.iconst 4, 1) := by decide +kernel
theorem d_Ch_init_62 : decode b_Ch_init 62 = .ok (.newarray .int, 2) := by decide +kernel
theorem d_Ch_init_64 : decode b_Ch_init 64 = .ok (.putfield 38, 3) := by decide +kernel
theorem d_Ch_init_67 : decode b_Ch_init 67 = .ok (.aload_n 0, 1) := by decide +kernel
theorem d_Ch_init_68 : decode b_Ch_init 68 = .ok (.bipush 6, 2) := by decide +kernel
theorem d_Ch_init_70 : decode b_Ch_init 70 = .ok (.newarray .int, 2) := by decide +kernel
theorem d_Ch_init_72 : decode b_Ch_init 72 = .ok (.putfield 41, 3) := by decide +kernel
theorem d_Ch_init_75 : decode b_Ch_init 75 = .ok (.return_, 1) := by decide +kernel
theorem ml_Ch_3 : Cond.methodLink R_Ch 3 objectInit ∈ TB := tb_of 134 (by decide +kernel) (by decide +kernel)
theorem cl_Ch_15 : Cond.classLink R_Ch 15 R_Tt ∈ TB := tb_of 135 (by decide +kernel) (by decide +kernel)
theorem is_Tt : Cond.instantiable R_Tt 6 ∈ TB := tb_of 136 (by decide +kernel) (by decide +kernel)
theorem ini_Tt : Cond.initialized R_Tt ∈ TB := tb_of 65 (by decide +kernel) (by decide +kernel)
theorem ml_Ch_17 : Cond.methodLink R_Ch 17 ⟨"RuleTrees$TreeTable", "<init>", "()V"⟩ ∈ TB := tb_of 137 (by decide +kernel) (by decide +kernel)
theorem u_Tt_init : Cond.instanceMethod y_Tt_init ∈ TB ∧ Cond.initialized y_Tt_init.cls ∈ TB ∧ Cond.code y_Tt_init b_Tt_init 1 none ∈ TB := ⟨(tb_of 138 (by decide +kernel) (by decide +kernel)), (tb_of 65 (by decide +kernel) (by decide +kernel)), k_Tt_init⟩
abbrev rm_Ch_init : Room := { frames := 2, cells := 14, slots := 7395, locals := 40 }
set_option maxHeartbeats 4000000 in
set_option maxRecDepth 100000 in
theorem c_Ch_init (l : Launch) (D : va_G) (K : Nat → ClassId) (h0 : Nat) (g0 : Nat) : CMet l y_Ch_init w_Ch_init (rm_Ch_init) D classes (tyK K) [.ref h0, .ref g0] [[(h0, .inr (3, [.null, .null, .null, .null, .int 0, .int 0, .null, .int 0, .null, .null, .null, .null]))]] (fun w1 => ∃ (a_self a_table : Nat → Nat), a_self 0 = h0 ∧ w1 = [wd_Ch K a_self g0 (a_table 0) (fun _ _ => 0), wd_Tt K a_table (fun _ _ => 0)]) 14 7395 := by
  refine cm_of R_Ch (by decide) rfl rfl rfl (Nat.le_of_ble_eq_true rfl) ?_
  intro p e s m below meth c A X hr hlk hin
  refine gd_loc (lv' := [(0, .ref h0), (1, .ref g0)]) [0, 1] rfl ?_
  refine gd_aload_n X d_Ch_init_0 0 rfl ?_
  refine gd_oinit X (List.mem_cons_of_mem _ ml_Ch_3) (List.mem_cons_of_mem _ oi_2) (List.mem_cons_of_mem _ oi_3) (Nat.le_of_ble_eq_true rfl) (Nat.le_of_ble_eq_true rfl) d_Ch_init_1 ?_
  refine gd_aload_n X d_Ch_init_4 0 rfl ?_
  refine gd_aload_n X d_Ch_init_5 1 rfl ?_
  refine gd_putF X (ci := 3) (C := R_Ch) (T := F_Ch) (N := 12) (ty := (.object "RuleTrees$Grammar")) (w' := [[(h0, .inr (3, [.ref g0, .null, .null, .null, .int 0, .int 0, .null, .int 0, .null, .null, .null, .null]))]]) hin 0 0 rfl rfl rfl (in_Ch _) t_Ch t_Ch_ok n_Ch 0 (by decide) (List.mem_cons_of_mem _ fl_Ch_9) rfl rfl rfl (by decide +kernel) rfl rfl (Nat.le_of_ble_eq_true rfl) d_Ch_init_6 rfl ?_
  refine gd_aload_n X d_Ch_init_9 0 rfl ?_
  refine gd_new X (ci := 2) (fs := [.null, .null, .null, .null, .null, .null]) (C := R_Tt) (T := F_Tt) (N := 6) t_Tt t_Tt_ok (in_Tt _) (List.mem_cons_of_mem _ cl_Ch_15) (List.mem_cons_of_mem _ is_Tt) (List.mem_cons_of_mem _ ini_Tt) rfl (fun j hj => by rcases (show j = 0 ∨ j = 1 ∨ j = 2 ∨ j = 3 ∨ j = 4 ∨ j = 5 by omega) with rfl | rfl | rfl | rfl | rfl | rfl <;> rfl) (Nat.le_of_ble_eq_true rfl) (Nat.le_of_ble_eq_true rfl) d_Ch_init_10 (fun q1 => ?_)
  refine gd_wid (w' := [[(h0, .inr (3, [.ref g0, .null, .null, .null, .int 0, .int 0, .null, .int 0, .null, .null, .null, .null]))], [(q1, .inr (2, [.null, .null, .null, .null, .null, .null]))]]) rfl ?_
  refine gd_dup X d_Ch_init_13 rfl ?_
  refine gd_I X (As := []) (rest := [.ref q1, .ref h0]) (c_Tt_init l D K q1) 0 (gi_I u_Tt_init.2.2) rfl ⟨rfl, rfl⟩ (List.mem_cons_of_mem _ u_Tt_init.2.1) (List.mem_cons_of_mem _ ml_Ch_17) (List.mem_cons_of_mem _ u_Tt_init.1) rfl (by decide +kernel) ⟨(Nat.le_of_ble_eq_true rfl), (Nat.le_of_ble_eq_true rfl)⟩ rfl rfl (Nat.le_of_ble_eq_true rfl) ⟨(Nat.le_of_ble_eq_true rfl), (Nat.le_of_ble_eq_true rfl)⟩ d_Ch_init_14 [1] [0] rfl rfl (wr := [[(h0, .inr (3, [.ref g0, .null, .null, .null, .int 0, .int 0, .null, .int 0, .null, .null, .null, .null]))]]) rfl rfl (by decide) (fun w1 hpw => ?_)
  obtain ⟨a_table, e0, rfl⟩ := hpw
  subst e0
  refine gd_wid (w' := [[(h0, .inr (3, [.ref g0, .null, .null, .null, .int 0, .int 0, .null, .int 0, .null, .null, .null, .null]))], wd_Tt K a_table (fun _ _ => 0)]) rfl ?_
  refine gd_putF X (ci := 3) (C := R_Ch) (T := F_Ch) (N := 12) (ty := (.object "RuleTrees$TreeTable")) (w' := [[(h0, .inr (3, [.ref g0, .ref (a_table 0), .null, .null, .int 0, .int 0, .null, .int 0, .null, .null, .null, .null]))], wd_Tt K a_table (fun _ _ => 0)]) hin 0 0 rfl rfl rfl (in_Ch _) t_Ch t_Ch_ok n_Ch 1 (by decide) (List.mem_cons_of_mem _ fl_Ch_18) rfl rfl rfl (by decide +kernel) rfl rfl (Nat.le_of_ble_eq_true rfl) d_Ch_init_17 rfl ?_
  refine gd_aload_n X d_Ch_init_20 0 rfl ?_
  refine gd_sipush X (v := 468) d_Ch_init_21 (by decide) ?_
  refine gd_newa X (a0 := (468, .inl (fun _ => 0))) 0 rfl rfl (fun _ z => z) (fun _ => rfl) (List.mem_cons_of_mem _ ac_int) (by decide) (by decide) (Nat.le_of_ble_eq_true rfl) (Nat.le_of_ble_eq_true rfl) (Nat.le_of_ble_eq_true rfl) d_Ch_init_24 (fun q2 => ?_)
  refine gd_wid (w' := [[(h0, .inr (3, [.ref g0, .ref (a_table 0), .null, .null, .int 0, .int 0, .null, .int 0, .null, .null, .null, .null]))], wd_Tt K a_table (fun _ _ => 0), [(q2, .inl (K 0, 468, .inl (fun _ => 0)))]]) rfl ?_
  refine gd_putF X (ci := 3) (C := R_Ch) (T := F_Ch) (N := 12) (ty := (.array .int)) (w' := [[(h0, .inr (3, [.ref g0, .ref (a_table 0), .ref q2, .null, .int 0, .int 0, .null, .int 0, .null, .null, .null, .null]))], wd_Tt K a_table (fun _ _ => 0), [(q2, .inl (K 0, 468, .inl (fun _ => 0)))]]) hin 0 0 rfl rfl rfl (in_Ch _) t_Ch t_Ch_ok n_Ch 2 (by decide) (List.mem_cons_of_mem _ fl_Ch_22) rfl rfl rfl (by decide +kernel) rfl rfl (Nat.le_of_ble_eq_true rfl) d_Ch_init_26 rfl ?_
  refine gd_aload_n X d_Ch_init_29 0 rfl ?_
  refine gd_bipush X (v := 12) d_Ch_init_30 (by decide) ?_
  refine gd_newa X (a0 := (12, .inl (fun _ => 0))) 0 rfl rfl (fun _ z => z) (fun _ => rfl) (List.mem_cons_of_mem _ ac_int) (by decide) (by decide) (Nat.le_of_ble_eq_true rfl) (Nat.le_of_ble_eq_true rfl) (Nat.le_of_ble_eq_true rfl) d_Ch_init_32 (fun q3 => ?_)
  refine gd_wid (w' := [[(h0, .inr (3, [.ref g0, .ref (a_table 0), .ref q2, .null, .int 0, .int 0, .null, .int 0, .null, .null, .null, .null]))], wd_Tt K a_table (fun _ _ => 0), [(q2, .inl (K 0, 468, .inl (fun _ => 0)))], [(q3, .inl (K 0, 12, .inl (fun _ => 0)))]]) rfl ?_
  refine gd_putF X (ci := 3) (C := R_Ch) (T := F_Ch) (N := 12) (ty := (.array .int)) (w' := [[(h0, .inr (3, [.ref g0, .ref (a_table 0), .ref q2, .ref q3, .int 0, .int 0, .null, .int 0, .null, .null, .null, .null]))], wd_Tt K a_table (fun _ _ => 0), [(q2, .inl (K 0, 468, .inl (fun _ => 0)))], [(q3, .inl (K 0, 12, .inl (fun _ => 0)))]]) hin 0 0 rfl rfl rfl (in_Ch _) t_Ch t_Ch_ok n_Ch 3 (by decide) (List.mem_cons_of_mem _ fl_Ch_26) rfl rfl rfl (by decide +kernel) rfl rfl (Nat.le_of_ble_eq_true rfl) d_Ch_init_34 rfl ?_
  refine gd_aload_n X d_Ch_init_37 0 rfl ?_
  refine gd_bipush X (v := 30) d_Ch_init_38 (by decide) ?_
  refine gd_newa X (a0 := (30, .inl (fun _ => 0))) 0 rfl rfl (fun _ z => z) (fun _ => rfl) (List.mem_cons_of_mem _ ac_int) (by decide) (by decide) (Nat.le_of_ble_eq_true rfl) (Nat.le_of_ble_eq_true rfl) (Nat.le_of_ble_eq_true rfl) d_Ch_init_40 (fun q4 => ?_)
  refine gd_wid (w' := [[(h0, .inr (3, [.ref g0, .ref (a_table 0), .ref q2, .ref q3, .int 0, .int 0, .null, .int 0, .null, .null, .null, .null]))], wd_Tt K a_table (fun _ _ => 0), [(q2, .inl (K 0, 468, .inl (fun _ => 0)))], [(q3, .inl (K 0, 12, .inl (fun _ => 0)))], [(q4, .inl (K 0, 30, .inl (fun _ => 0)))]]) rfl ?_
  refine gd_putF X (ci := 3) (C := R_Ch) (T := F_Ch) (N := 12) (ty := (.array .int)) (w' := [[(h0, .inr (3, [.ref g0, .ref (a_table 0), .ref q2, .ref q3, .int 0, .int 0, .ref q4, .int 0, .null, .null, .null, .null]))], wd_Tt K a_table (fun _ _ => 0), [(q2, .inl (K 0, 468, .inl (fun _ => 0)))], [(q3, .inl (K 0, 12, .inl (fun _ => 0)))], [(q4, .inl (K 0, 30, .inl (fun _ => 0)))]]) hin 0 0 rfl rfl rfl (in_Ch _) t_Ch t_Ch_ok n_Ch 6 (by decide) (List.mem_cons_of_mem _ fl_Ch_29) rfl rfl rfl (by decide +kernel) rfl rfl (Nat.le_of_ble_eq_true rfl) d_Ch_init_42 rfl ?_
  refine gd_aload_n X d_Ch_init_45 0 rfl ?_
  refine gd_bipush X (v := 6) d_Ch_init_46 (by decide) ?_
  refine gd_newa X (a0 := (6, .inl (fun _ => 0))) 0 rfl rfl (fun _ z => z) (fun _ => rfl) (List.mem_cons_of_mem _ ac_int) (by decide) (by decide) (Nat.le_of_ble_eq_true rfl) (Nat.le_of_ble_eq_true rfl) (Nat.le_of_ble_eq_true rfl) d_Ch_init_48 (fun q5 => ?_)
  refine gd_wid (w' := [[(h0, .inr (3, [.ref g0, .ref (a_table 0), .ref q2, .ref q3, .int 0, .int 0, .ref q4, .int 0, .null, .null, .null, .null]))], wd_Tt K a_table (fun _ _ => 0), [(q2, .inl (K 0, 468, .inl (fun _ => 0)))], [(q3, .inl (K 0, 12, .inl (fun _ => 0)))], [(q4, .inl (K 0, 30, .inl (fun _ => 0)))], [(q5, .inl (K 0, 6, .inl (fun _ => 0)))]]) rfl ?_
  refine gd_putF X (ci := 3) (C := R_Ch) (T := F_Ch) (N := 12) (ty := (.array .int)) (w' := [[(h0, .inr (3, [.ref g0, .ref (a_table 0), .ref q2, .ref q3, .int 0, .int 0, .ref q4, .int 0, .ref q5, .null, .null, .null]))], wd_Tt K a_table (fun _ _ => 0), [(q2, .inl (K 0, 468, .inl (fun _ => 0)))], [(q3, .inl (K 0, 12, .inl (fun _ => 0)))], [(q4, .inl (K 0, 30, .inl (fun _ => 0)))], [(q5, .inl (K 0, 6, .inl (fun _ => 0)))]]) hin 0 0 rfl rfl rfl (in_Ch _) t_Ch t_Ch_ok n_Ch 8 (by decide) (List.mem_cons_of_mem _ fl_Ch_32) rfl rfl rfl (by decide +kernel) rfl rfl (Nat.le_of_ble_eq_true rfl) d_Ch_init_50 rfl ?_
  refine gd_aload_n X d_Ch_init_53 0 rfl ?_
  refine gd_iconst X (v := 4) d_Ch_init_54 (by decide) ?_
  refine gd_newa X (a0 := (4, .inl (fun _ => 0))) 0 rfl rfl (fun _ z => z) (fun _ => rfl) (List.mem_cons_of_mem _ ac_int) (by decide) (by decide) (Nat.le_of_ble_eq_true rfl) (Nat.le_of_ble_eq_true rfl) (Nat.le_of_ble_eq_true rfl) d_Ch_init_55 (fun q6 => ?_)
  refine gd_wid (w' := [[(h0, .inr (3, [.ref g0, .ref (a_table 0), .ref q2, .ref q3, .int 0, .int 0, .ref q4, .int 0, .ref q5, .null, .null, .null]))], wd_Tt K a_table (fun _ _ => 0), [(q2, .inl (K 0, 468, .inl (fun _ => 0)))], [(q3, .inl (K 0, 12, .inl (fun _ => 0)))], [(q4, .inl (K 0, 30, .inl (fun _ => 0)))], [(q5, .inl (K 0, 6, .inl (fun _ => 0)))], [(q6, .inl (K 0, 4, .inl (fun _ => 0)))]]) rfl ?_
  refine gd_putF X (ci := 3) (C := R_Ch) (T := F_Ch) (N := 12) (ty := (.array .int)) (w' := [[(h0, .inr (3, [.ref g0, .ref (a_table 0), .ref q2, .ref q3, .int 0, .int 0, .ref q4, .int 0, .ref q5, .ref q6, .null, .null]))], wd_Tt K a_table (fun _ _ => 0), [(q2, .inl (K 0, 468, .inl (fun _ => 0)))], [(q3, .inl (K 0, 12, .inl (fun _ => 0)))], [(q4, .inl (K 0, 30, .inl (fun _ => 0)))], [(q5, .inl (K 0, 6, .inl (fun _ => 0)))], [(q6, .inl (K 0, 4, .inl (fun _ => 0)))]]) hin 0 0 rfl rfl rfl (in_Ch _) t_Ch t_Ch_ok n_Ch 9 (by decide) (List.mem_cons_of_mem _ fl_Ch_35) rfl rfl rfl (by decide +kernel) rfl rfl (Nat.le_of_ble_eq_true rfl) d_Ch_init_57 rfl ?_
  refine gd_aload_n X d_Ch_init_60 0 rfl ?_
  refine gd_iconst X (v := 4) d_Ch_init_61 (by decide) ?_
  refine gd_newa X (a0 := (4, .inl (fun _ => 0))) 0 rfl rfl (fun _ z => z) (fun _ => rfl) (List.mem_cons_of_mem _ ac_int) (by decide) (by decide) (Nat.le_of_ble_eq_true rfl) (Nat.le_of_ble_eq_true rfl) (Nat.le_of_ble_eq_true rfl) d_Ch_init_62 (fun q7 => ?_)
  refine gd_wid (w' := [[(h0, .inr (3, [.ref g0, .ref (a_table 0), .ref q2, .ref q3, .int 0, .int 0, .ref q4, .int 0, .ref q5, .ref q6, .null, .null]))], wd_Tt K a_table (fun _ _ => 0), [(q2, .inl (K 0, 468, .inl (fun _ => 0)))], [(q3, .inl (K 0, 12, .inl (fun _ => 0)))], [(q4, .inl (K 0, 30, .inl (fun _ => 0)))], [(q5, .inl (K 0, 6, .inl (fun _ => 0)))], [(q6, .inl (K 0, 4, .inl (fun _ => 0)))], [(q7, .inl (K 0, 4, .inl (fun _ => 0)))]]) rfl ?_
  refine gd_putF X (ci := 3) (C := R_Ch) (T := F_Ch) (N := 12) (ty := (.array .int)) (w' := [[(h0, .inr (3, [.ref g0, .ref (a_table 0), .ref q2, .ref q3, .int 0, .int 0, .ref q4, .int 0, .ref q5, .ref q6, .ref q7, .null]))], wd_Tt K a_table (fun _ _ => 0), [(q2, .inl (K 0, 468, .inl (fun _ => 0)))], [(q3, .inl (K 0, 12, .inl (fun _ => 0)))], [(q4, .inl (K 0, 30, .inl (fun _ => 0)))], [(q5, .inl (K 0, 6, .inl (fun _ => 0)))], [(q6, .inl (K 0, 4, .inl (fun _ => 0)))], [(q7, .inl (K 0, 4, .inl (fun _ => 0)))]]) hin 0 0 rfl rfl rfl (in_Ch _) t_Ch t_Ch_ok n_Ch 10 (by decide) (List.mem_cons_of_mem _ fl_Ch_38) rfl rfl rfl (by decide +kernel) rfl rfl (Nat.le_of_ble_eq_true rfl) d_Ch_init_64 rfl ?_
  refine gd_aload_n X d_Ch_init_67 0 rfl ?_
  refine gd_bipush X (v := 6) d_Ch_init_68 (by decide) ?_
  refine gd_newa X (a0 := (6, .inl (fun _ => 0))) 0 rfl rfl (fun _ z => z) (fun _ => rfl) (List.mem_cons_of_mem _ ac_int) (by decide) (by decide) (Nat.le_of_ble_eq_true rfl) (Nat.le_of_ble_eq_true rfl) (Nat.le_of_ble_eq_true rfl) d_Ch_init_70 (fun q8 => ?_)
  refine gd_wid (w' := [[(h0, .inr (3, [.ref g0, .ref (a_table 0), .ref q2, .ref q3, .int 0, .int 0, .ref q4, .int 0, .ref q5, .ref q6, .ref q7, .null]))], wd_Tt K a_table (fun _ _ => 0), [(q2, .inl (K 0, 468, .inl (fun _ => 0)))], [(q3, .inl (K 0, 12, .inl (fun _ => 0)))], [(q4, .inl (K 0, 30, .inl (fun _ => 0)))], [(q5, .inl (K 0, 6, .inl (fun _ => 0)))], [(q6, .inl (K 0, 4, .inl (fun _ => 0)))], [(q7, .inl (K 0, 4, .inl (fun _ => 0)))], [(q8, .inl (K 0, 6, .inl (fun _ => 0)))]]) rfl ?_
  refine gd_putF X (ci := 3) (C := R_Ch) (T := F_Ch) (N := 12) (ty := (.array .int)) (w' := [[(h0, .inr (3, [.ref g0, .ref (a_table 0), .ref q2, .ref q3, .int 0, .int 0, .ref q4, .int 0, .ref q5, .ref q6, .ref q7, .ref q8]))], wd_Tt K a_table (fun _ _ => 0), [(q2, .inl (K 0, 468, .inl (fun _ => 0)))], [(q3, .inl (K 0, 12, .inl (fun _ => 0)))], [(q4, .inl (K 0, 30, .inl (fun _ => 0)))], [(q5, .inl (K 0, 6, .inl (fun _ => 0)))], [(q6, .inl (K 0, 4, .inl (fun _ => 0)))], [(q7, .inl (K 0, 4, .inl (fun _ => 0)))], [(q8, .inl (K 0, 6, .inl (fun _ => 0)))]]) hin 0 0 rfl rfl rfl (in_Ch _) t_Ch t_Ch_ok n_Ch 11 (by decide) (List.mem_cons_of_mem _ fl_Ch_41) rfl rfl rfl (by decide +kernel) rfl rfl (Nat.le_of_ble_eq_true rfl) d_Ch_init_72 rfl ?_
  refine gd_ws (w' := [[(h0, .inr (3, [.ref g0, .ref (a_table 0), .ref q2, .ref q3, .int 0, .int 0, .ref q4, .int 0, .ref q5, .ref q6, .ref q7, .ref q8]))], [(q2, .inl (K 0, 468, .inl (fun _ => 0)))], [(q3, .inl (K 0, 12, .inl (fun _ => 0)))], [(q4, .inl (K 0, 30, .inl (fun _ => 0)))], [(q5, .inl (K 0, 6, .inl (fun _ => 0)))], [(q6, .inl (K 0, 4, .inl (fun _ => 0)))], [(q7, .inl (K 0, 4, .inl (fun _ => 0)))], [(q8, .inl (K 0, 6, .inl (fun _ => 0)))], wd_Tt K a_table (fun _ _ => 0)]) [0, 2, 3, 4, 5, 6, 7, 8, 1] rfl rfl ?_
  refine gd_weq (w' := [wd_Ch K (fun k => match k with | 0 => h0 | 1 => q2 | 2 => q3 | 3 => q4 | 4 => q5 | 5 => q6 | 6 => q7 | 7 => q8 | _ => h0) g0 (a_table 0) (fun _ _ => 0), wd_Tt K a_table (fun _ _ => 0)]) rfl ?_
  refine gd_widen (k := 14) (n := 7395) (Nat.le_of_ble_eq_true rfl) (Nat.le_of_ble_eq_true rfl) ?_
  exact gd_vretC X ⟨(fun k => match k with | 0 => h0 | 1 => q2 | 2 => q3 | 3 => q4 | 4 => q5 | 5 => q6 | 6 => q7 | 7 => q8 | _ => h0), a_table, rfl, rfl⟩ hr hlk d_Ch_init_75
