abbrev b_Gw_init : ByteArray := prog_4_method_1_code
def y_Gw_init : MethodName := ⟨R_Gw, "<init>", "(LRuleTrees$Grammar;)V"⟩
def w_Gw_init : List Cond := .code y_Gw_init b_Gw_init 2 none :: TB
theorem k_Gw_init : Cond.code y_Gw_init b_Gw_init 2 none ∈ TB := tb_of 201 (by decide +kernel) (by decide +kernel)
theorem d_Gw_init_0 : decode b_Gw_init 0 = .ok (.aload_n 0, 1) := by decide +kernel
theorem d_Gw_init_1 : decode b_Gw_init 1 = .ok (.invokespecial 3, 3) := by decide +kernel
theorem d_Gw_init_4 : decode b_Gw_init 4 = .ok (.aload_n 0, 1) := by decide +kernel
theorem d_Gw_init_5 : decode b_Gw_init 5 = .ok (.aload_n 1, 1) := by decide +kernel
theorem d_Gw_init_6 : decode b_Gw_init 6 = .ok (.putfield 9, 3) := by decide +kernel
theorem d_Gw_init_9 : decode b_Gw_init 9 = .ok (.aload_n 0, 1) := by decide +kernel
theorem d_Gw_init_10 : decode b_Gw_init 10 = .ok (.sipush 601, 3) := by decide +kernel
theorem d_Gw_init_13 : decode b_Gw_init 13 = .ok (.newarray .int, 2) := by decide +kernel
theorem d_Gw_init_15 : decode b_Gw_init 15 = .ok (.putfield 15, 3) := by decide +kernel
theorem d_Gw_init_18 : decode b_Gw_init 18 = .ok (.aload_n 0, 1) := by decide +kernel
theorem d_Gw_init_19 : decode b_Gw_init 19 = .ok (.new 19, 3) := by decide +kernel
theorem d_Gw_init_22 : decode b_Gw_init 22 = .ok (.dup, 1) := by decide +kernel
theorem d_Gw_init_23 : decode b_Gw_init 23 = .ok (.bipush 12, 2) := by decide +kernel
theorem d_Gw_init_25 : decode b_Gw_init 25 = .ok (.invokespecial 21, 3) := by decide +kernel
theorem d_Gw_init_28 : decode b_Gw_init 28 = .ok (.putfield 24, 3) := by decide +kernel
theorem d_Gw_init_31 : decode b_Gw_init 31 = .ok (.aload_n 0, 1) := by decide +kernel
theorem d_Gw_init_32 : decode b_Gw_init 32 = .ok (.bipush 12, 2) := by decide +kernel
theorem d_Gw_init_34 : decode b_Gw_init 34 = .ok (.newarray .int, 2) := by decide +kernel
theorem d_Gw_init_36 : decode b_Gw_init 36 = .ok (.putfield 28, 3) := by decide +kernel
theorem d_Gw_init_39 : decode b_Gw_init 39 = .ok (.aload_n 0, 1) := by decide +kernel
theorem d_Gw_init_40 : decode b_Gw_init 40 = .ok (.new 19, 3) := by decide +kernel
theorem d_Gw_init_43 : decode b_Gw_init 43 = .ok (.dup, 1) := by decide +kernel
theorem d_Gw_init_44 : decode b_Gw_init 44 = .ok (.bipush 12, 2) := by decide +kernel
theorem d_Gw_init_46 : decode b_Gw_init 46 = .ok (.invokespecial 21, 3) := by decide +kernel
theorem d_Gw_init_49 : decode b_Gw_init 49 = .ok (.putfield 31, 3) := by decide +kernel
theorem d_Gw_init_52 : decode b_Gw_init 52 = .ok (.aload_n 0, 1) := by decide +kernel
theorem d_Gw_init_53 : decode b_Gw_init 53 = .ok (.iconst (-1), 1) := by decide +kernel
theorem d_Gw_init_54 : decode b_Gw_init 54 = .ok (.putfield 34, 3) := by decide +kernel
theorem d_Gw_init_57 : decode b_Gw_init 57 = .ok (.return_, 1) := by decide +kernel
theorem ml_Gw_3 : Cond.methodLink R_Gw 3 objectInit ∈ TB := tb_of 202 (by decide +kernel) (by decide +kernel)
theorem cl_Gw_19 : Cond.classLink R_Gw 19 R_Sy ∈ TB := tb_of 203 (by decide +kernel) (by decide +kernel)
theorem is_Sy : Cond.instantiable R_Sy 2 ∈ TB := tb_of 204 (by decide +kernel) (by decide +kernel)
theorem ini_Sy : Cond.initialized R_Sy ∈ TB := tb_of 67 (by decide +kernel) (by decide +kernel)
theorem ml_Gw_21 : Cond.methodLink R_Gw 21 ⟨"RuleTrees$Symbols", "<init>", "(I)V"⟩ ∈ TB := tb_of 205 (by decide +kernel) (by decide +kernel)
theorem u_Sy_init : Cond.instanceMethod y_Sy_init ∈ TB ∧ Cond.initialized y_Sy_init.cls ∈ TB ∧ Cond.code y_Sy_init b_Sy_init 2 none ∈ TB := ⟨(tb_of 206 (by decide +kernel) (by decide +kernel)), (tb_of 67 (by decide +kernel) (by decide +kernel)), k_Sy_init⟩
abbrev rm_Gw_init : Room := { frames := 2, cells := 6, slots := 641, locals := 42 }
set_option maxHeartbeats 4000000 in
set_option maxRecDepth 100000 in
theorem c_Gw_init (l : Launch) (D : va_G) (K : Nat → ClassId) (h0 : Nat) (g0 : Nat) : CMet l y_Gw_init w_Gw_init (rm_Gw_init) D classes (tyK K) [.ref h0, .ref g0] [[(h0, .inr (4, [.null, .null, .null, .null, .int 0, .null, .int 0]))]] (fun w1 => ∃ (a_self a_grown a_joined : Nat → Nat), a_self 0 = h0 ∧ w1 = [wd_Gw K a_self g0 (a_grown 0) (a_joined 0) (st2 (fun _ _ => 0) 0 6 (-1)), wd_Sy K a_grown 12 (fun _ _ => 0), wd_Sy K a_joined 12 (fun _ _ => 0)]) 6 641 := by
  refine cm_of R_Gw (by decide) rfl rfl rfl (Nat.le_of_ble_eq_true rfl) ?_
  intro p e s m below meth c A X hr hlk hin
  refine gd_loc (lv' := [(0, .ref h0), (1, .ref g0)]) [0, 1] rfl ?_
  refine gd_aload_n X d_Gw_init_0 0 rfl ?_
  refine gd_oinit X (List.mem_cons_of_mem _ ml_Gw_3) (List.mem_cons_of_mem _ oi_2) (List.mem_cons_of_mem _ oi_3) (Nat.le_of_ble_eq_true rfl) (Nat.le_of_ble_eq_true rfl) d_Gw_init_1 ?_
  refine gd_aload_n X d_Gw_init_4 0 rfl ?_
  refine gd_aload_n X d_Gw_init_5 1 rfl ?_
  refine gd_putF X (ci := 4) (C := R_Gw) (T := F_Gw) (N := 7) (ty := (.object "RuleTrees$Grammar")) (w' := [[(h0, .inr (4, [.ref g0, .null, .null, .null, .int 0, .null, .int 0]))]]) hin 0 0 rfl rfl rfl (in_Gw _) t_Gw t_Gw_ok n_Gw 0 (by decide) (List.mem_cons_of_mem _ fl_Gw_9) rfl rfl rfl (by decide +kernel) rfl rfl (Nat.le_of_ble_eq_true rfl) d_Gw_init_6 rfl ?_
  refine gd_aload_n X d_Gw_init_9 0 rfl ?_
  refine gd_sipush X (v := 601) d_Gw_init_10 (by decide) ?_
  refine gd_newa X (a0 := (601, .inl (fun _ => 0))) 0 rfl rfl (fun _ z => z) (fun _ => rfl) (List.mem_cons_of_mem _ ac_int) (by decide) (by decide) (Nat.le_of_ble_eq_true rfl) (Nat.le_of_ble_eq_true rfl) (Nat.le_of_ble_eq_true rfl) d_Gw_init_13 (fun q1 => ?_)
  refine gd_wid (w' := [[(h0, .inr (4, [.ref g0, .null, .null, .null, .int 0, .null, .int 0]))], [(q1, .inl (K 0, 601, .inl (fun _ => 0)))]]) rfl ?_
  refine gd_putF X (ci := 4) (C := R_Gw) (T := F_Gw) (N := 7) (ty := (.array .int)) (w' := [[(h0, .inr (4, [.ref g0, .ref q1, .null, .null, .int 0, .null, .int 0]))], [(q1, .inl (K 0, 601, .inl (fun _ => 0)))]]) hin 0 0 rfl rfl rfl (in_Gw _) t_Gw t_Gw_ok n_Gw 1 (by decide) (List.mem_cons_of_mem _ fl_Gw_15) rfl rfl rfl (by decide +kernel) rfl rfl (Nat.le_of_ble_eq_true rfl) d_Gw_init_15 rfl ?_
  refine gd_aload_n X d_Gw_init_18 0 rfl ?_
  refine gd_new X (ci := 0) (fs := [.null, .int 0]) (C := R_Sy) (T := F_Sy) (N := 2) t_Sy t_Sy_ok (in_Sy _) (List.mem_cons_of_mem _ cl_Gw_19) (List.mem_cons_of_mem _ is_Sy) (List.mem_cons_of_mem _ ini_Sy) rfl (fun j hj => by rcases (show j = 0 ∨ j = 1 by omega) with rfl | rfl <;> rfl) (Nat.le_of_ble_eq_true rfl) (Nat.le_of_ble_eq_true rfl) d_Gw_init_19 (fun q2 => ?_)
  refine gd_wid (w' := [[(h0, .inr (4, [.ref g0, .ref q1, .null, .null, .int 0, .null, .int 0]))], [(q1, .inl (K 0, 601, .inl (fun _ => 0)))], [(q2, .inr (0, [.null, .int 0]))]]) rfl ?_
  refine gd_dup X d_Gw_init_22 rfl ?_
  refine gd_bipush X (v := 12) d_Gw_init_23 (by decide) ?_
  refine gd_I X (As := [.int 12]) (rest := [.ref q2, .ref h0]) (c_Sy_init l D K q2 12 12 (by decide) (by omega)) 1 (gi_I u_Sy_init.2.2) rfl ⟨rfl, rfl⟩ (List.mem_cons_of_mem _ u_Sy_init.2.1) (List.mem_cons_of_mem _ ml_Gw_21) (List.mem_cons_of_mem _ u_Sy_init.1) rfl (by decide +kernel) ⟨(Nat.le_of_ble_eq_true rfl), (Nat.le_of_ble_eq_true rfl)⟩ rfl rfl (Nat.le_of_ble_eq_true rfl) ⟨(Nat.le_of_ble_eq_true rfl), (Nat.le_of_ble_eq_true rfl)⟩ d_Gw_init_25 [2] [0, 1] rfl rfl (wr := [[(h0, .inr (4, [.ref g0, .ref q1, .null, .null, .int 0, .null, .int 0]))], [(q1, .inl (K 0, 601, .inl (fun _ => 0)))]]) rfl rfl (by decide) (fun w1 hpw => ?_)
  obtain ⟨a_grown, e0, rfl⟩ := hpw
  subst e0
  refine gd_wid (w' := [[(h0, .inr (4, [.ref g0, .ref q1, .null, .null, .int 0, .null, .int 0]))], [(q1, .inl (K 0, 601, .inl (fun _ => 0)))], wd_Sy K a_grown 12 (fun _ _ => 0)]) rfl ?_
  refine gd_putF X (ci := 4) (C := R_Gw) (T := F_Gw) (N := 7) (ty := (.object "RuleTrees$Symbols")) (w' := [[(h0, .inr (4, [.ref g0, .ref q1, .ref (a_grown 0), .null, .int 0, .null, .int 0]))], [(q1, .inl (K 0, 601, .inl (fun _ => 0)))], wd_Sy K a_grown 12 (fun _ _ => 0)]) hin 0 0 rfl rfl rfl (in_Gw _) t_Gw t_Gw_ok n_Gw 2 (by decide) (List.mem_cons_of_mem _ fl_Gw_24) rfl rfl rfl (by decide +kernel) rfl rfl (Nat.le_of_ble_eq_true rfl) d_Gw_init_28 rfl ?_
  refine gd_aload_n X d_Gw_init_31 0 rfl ?_
  refine gd_bipush X (v := 12) d_Gw_init_32 (by decide) ?_
  refine gd_newa X (a0 := (12, .inl (fun _ => 0))) 0 rfl rfl (fun _ z => z) (fun _ => rfl) (List.mem_cons_of_mem _ ac_int) (by decide) (by decide) (Nat.le_of_ble_eq_true rfl) (Nat.le_of_ble_eq_true rfl) (Nat.le_of_ble_eq_true rfl) d_Gw_init_34 (fun q3 => ?_)
  refine gd_wid (w' := [[(h0, .inr (4, [.ref g0, .ref q1, .ref (a_grown 0), .null, .int 0, .null, .int 0]))], [(q1, .inl (K 0, 601, .inl (fun _ => 0)))], wd_Sy K a_grown 12 (fun _ _ => 0), [(q3, .inl (K 0, 12, .inl (fun _ => 0)))]]) rfl ?_
  refine gd_putF X (ci := 4) (C := R_Gw) (T := F_Gw) (N := 7) (ty := (.array .int)) (w' := [[(h0, .inr (4, [.ref g0, .ref q1, .ref (a_grown 0), .ref q3, .int 0, .null, .int 0]))], [(q1, .inl (K 0, 601, .inl (fun _ => 0)))], wd_Sy K a_grown 12 (fun _ _ => 0), [(q3, .inl (K 0, 12, .inl (fun _ => 0)))]]) hin 0 0 rfl rfl rfl (in_Gw _) t_Gw t_Gw_ok n_Gw 3 (by decide) (List.mem_cons_of_mem _ fl_Gw_28) rfl rfl rfl (by decide +kernel) rfl rfl (Nat.le_of_ble_eq_true rfl) d_Gw_init_36 rfl ?_
  refine gd_aload_n X d_Gw_init_39 0 rfl ?_
  refine gd_new X (ci := 0) (fs := [.null, .int 0]) (C := R_Sy) (T := F_Sy) (N := 2) t_Sy t_Sy_ok (in_Sy _) (List.mem_cons_of_mem _ cl_Gw_19) (List.mem_cons_of_mem _ is_Sy) (List.mem_cons_of_mem _ ini_Sy) rfl (fun j hj => by rcases (show j = 0 ∨ j = 1 by omega) with rfl | rfl <;> rfl) (Nat.le_of_ble_eq_true rfl) (Nat.le_of_ble_eq_true rfl) d_Gw_init_40 (fun q4 => ?_)
  refine gd_wid (w' := [[(h0, .inr (4, [.ref g0, .ref q1, .ref (a_grown 0), .ref q3, .int 0, .null, .int 0]))], [(q1, .inl (K 0, 601, .inl (fun _ => 0)))], wd_Sy K a_grown 12 (fun _ _ => 0), [(q3, .inl (K 0, 12, .inl (fun _ => 0)))], [(q4, .inr (0, [.null, .int 0]))]]) rfl ?_
  refine gd_dup X d_Gw_init_43 rfl ?_
  refine gd_bipush X (v := 12) d_Gw_init_44 (by decide) ?_
  refine gd_I X (As := [.int 12]) (rest := [.ref q4, .ref h0]) (c_Sy_init l D K q4 12 12 (by decide) (by omega)) 1 (gi_I u_Sy_init.2.2) rfl ⟨rfl, rfl⟩ (List.mem_cons_of_mem _ u_Sy_init.2.1) (List.mem_cons_of_mem _ ml_Gw_21) (List.mem_cons_of_mem _ u_Sy_init.1) rfl (by decide +kernel) ⟨(Nat.le_of_ble_eq_true rfl), (Nat.le_of_ble_eq_true rfl)⟩ rfl rfl (Nat.le_of_ble_eq_true rfl) ⟨(Nat.le_of_ble_eq_true rfl), (Nat.le_of_ble_eq_true rfl)⟩ d_Gw_init_46 [4] [0, 1, 2, 3] rfl rfl (wr := [[(h0, .inr (4, [.ref g0, .ref q1, .ref (a_grown 0), .ref q3, .int 0, .null, .int 0]))], [(q1, .inl (K 0, 601, .inl (fun _ => 0)))], wd_Sy K a_grown 12 (fun _ _ => 0), [(q3, .inl (K 0, 12, .inl (fun _ => 0)))]]) rfl rfl (by decide) (fun w1 hpw => ?_)
  obtain ⟨a_joined, e0, rfl⟩ := hpw
  subst e0
  refine gd_wid (w' := [[(h0, .inr (4, [.ref g0, .ref q1, .ref (a_grown 0), .ref q3, .int 0, .null, .int 0]))], [(q1, .inl (K 0, 601, .inl (fun _ => 0)))], wd_Sy K a_grown 12 (fun _ _ => 0), [(q3, .inl (K 0, 12, .inl (fun _ => 0)))], wd_Sy K a_joined 12 (fun _ _ => 0)]) rfl ?_
  refine gd_putF X (ci := 4) (C := R_Gw) (T := F_Gw) (N := 7) (ty := (.object "RuleTrees$Symbols")) (w' := [[(h0, .inr (4, [.ref g0, .ref q1, .ref (a_grown 0), .ref q3, .int 0, .ref (a_joined 0), .int 0]))], [(q1, .inl (K 0, 601, .inl (fun _ => 0)))], wd_Sy K a_grown 12 (fun _ _ => 0), [(q3, .inl (K 0, 12, .inl (fun _ => 0)))], wd_Sy K a_joined 12 (fun _ _ => 0)]) hin 0 0 rfl rfl rfl (in_Gw _) t_Gw t_Gw_ok n_Gw 5 (by decide) (List.mem_cons_of_mem _ fl_Gw_31) rfl rfl rfl (by decide +kernel) rfl rfl (Nat.le_of_ble_eq_true rfl) d_Gw_init_49 rfl ?_
  refine gd_aload_n X d_Gw_init_52 0 rfl ?_
  refine gd_iconst X (v := (-1)) d_Gw_init_53 (by decide) ?_
  refine gd_put X (ci := 4) (C := R_Gw) (T := F_Gw) (N := 7) (ty := .int) (w' := [[(h0, .inr (4, [.ref g0, .ref q1, .ref (a_grown 0), .ref q3, .int 0, .ref (a_joined 0), .int (-1)]))], [(q1, .inl (K 0, 601, .inl (fun _ => 0)))], wd_Sy K a_grown 12 (fun _ _ => 0), [(q3, .inl (K 0, 12, .inl (fun _ => 0)))], wd_Sy K a_joined 12 (fun _ _ => 0)]) 0 0 rfl rfl rfl (in_Gw _) t_Gw t_Gw_ok n_Gw 6 (by decide) (List.mem_cons_of_mem _ fl_Gw_34) rfl rfl (by decide +kernel) rfl rfl (Nat.le_of_ble_eq_true rfl) d_Gw_init_54 rfl ?_
  refine gd_ws (w' := [[(h0, .inr (4, [.ref g0, .ref q1, .ref (a_grown 0), .ref q3, .int 0, .ref (a_joined 0), .int (-1)]))], [(q1, .inl (K 0, 601, .inl (fun _ => 0)))], [(q3, .inl (K 0, 12, .inl (fun _ => 0)))], wd_Sy K a_grown 12 (fun _ _ => 0), wd_Sy K a_joined 12 (fun _ _ => 0)]) [0, 1, 3, 2, 4] rfl rfl ?_
  refine gd_weq (w' := [wd_Gw K (fun k => match k with | 0 => h0 | 1 => q1 | 2 => q3 | _ => h0) g0 (a_grown 0) (a_joined 0) (st2 (fun _ _ => 0) 0 6 (-1)), wd_Sy K a_grown 12 (fun _ _ => 0), wd_Sy K a_joined 12 (fun _ _ => 0)]) rfl ?_
  refine gd_widen (k := 6) (n := 641) (Nat.le_of_ble_eq_true rfl) (Nat.le_of_ble_eq_true rfl) ?_
  exact gd_vretC X ⟨(fun k => match k with | 0 => h0 | 1 => q1 | 2 => q3 | _ => h0), a_grown, a_joined, rfl, rfl⟩ hr hlk d_Gw_init_57
