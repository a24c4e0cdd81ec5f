abbrev b_Sr_init : ByteArray := prog_5_method_1_code
def y_Sr_init : MethodName := ⟨R_Sr, "<init>", "(LRuleTrees$Grammar;)V"⟩
def w_Sr_init : List Cond := .code y_Sr_init b_Sr_init 2 none :: TB
theorem k_Sr_init : Cond.code y_Sr_init b_Sr_init 2 none ∈ TB := tb_of 250 (by decide +kernel) (by decide +kernel)
theorem d_Sr_init_0 : decode b_Sr_init 0 = .ok (.aload_n 0, 1) := by decide +kernel
theorem d_Sr_init_1 : decode b_Sr_init 1 = .ok (.invokespecial 3, 3) := by decide +kernel
theorem d_Sr_init_4 : decode b_Sr_init 4 = .ok (.aload_n 0, 1) := by decide +kernel
theorem d_Sr_init_5 : decode b_Sr_init 5 = .ok (.aload_n 1, 1) := by decide +kernel
theorem d_Sr_init_6 : decode b_Sr_init 6 = .ok (.putfield 9, 3) := by decide +kernel
theorem d_Sr_init_9 : decode b_Sr_init 9 = .ok (.aload_n 0, 1) := by decide +kernel
theorem d_Sr_init_10 : decode b_Sr_init 10 = .ok (.bipush 6, 2) := by decide +kernel
theorem d_Sr_init_12 : decode b_Sr_init 12 = .ok (.newarray .int, 2) := by decide +kernel
theorem d_Sr_init_14 : decode b_Sr_init 14 = .ok (.putfield 15, 3) := by decide +kernel
theorem d_Sr_init_17 : decode b_Sr_init 17 = .ok (.return_, 1) := by decide +kernel
theorem ml_Sr_3 : Cond.methodLink R_Sr 3 objectInit ∈ TB := tb_of 251 (by decide +kernel) (by decide +kernel)
abbrev rm_Sr_init : Room := { frames := 1, cells := 1, slots := 6, locals := 20 }
set_option maxHeartbeats 4000000 in
set_option maxRecDepth 100000 in
theorem c_Sr_init (l : Launch) (D : va_G) (K : Nat → ClassId) (h0 : Nat) (g0 : Nat) : CMet l y_Sr_init w_Sr_init (rm_Sr_init) D classes (tyK K) [.ref h0, .ref g0] [[(h0, .inr (5, [.null, .null]))]] (fun w1 => ∃ (a_self : Nat → Nat), a_self 0 = h0 ∧ w1 = [wd_Sr K a_self g0 (fun _ _ => 0)]) 1 6 := by
  refine cm_of R_Sr (by decide) rfl rfl rfl (Nat.le_of_ble_eq_true rfl) ?_
  intro p e s m below meth c A X hr hlk hin
  refine gd_loc (lv' := [(0, .ref h0), (1, .ref g0)]) [0, 1] rfl ?_
  refine gd_aload_n X d_Sr_init_0 0 rfl ?_
  refine gd_oinit X (List.mem_cons_of_mem _ ml_Sr_3) (List.mem_cons_of_mem _ oi_2) (List.mem_cons_of_mem _ oi_3) (Nat.le_of_ble_eq_true rfl) (Nat.le_of_ble_eq_true rfl) d_Sr_init_1 ?_
  refine gd_aload_n X d_Sr_init_4 0 rfl ?_
  refine gd_aload_n X d_Sr_init_5 1 rfl ?_
  refine gd_putF X (ci := 5) (C := R_Sr) (T := F_Sr) (N := 2) (ty := (.object "RuleTrees$Grammar")) (w' := [[(h0, .inr (5, [.ref g0, .null]))]]) hin 0 0 rfl rfl rfl (in_Sr _) t_Sr t_Sr_ok n_Sr 0 (by decide) (List.mem_cons_of_mem _ fl_Sr_9) rfl rfl rfl (by decide +kernel) rfl rfl (Nat.le_of_ble_eq_true rfl) d_Sr_init_6 rfl ?_
  refine gd_aload_n X d_Sr_init_9 0 rfl ?_
  refine gd_bipush X (v := 6) d_Sr_init_10 (by decide) ?_
  refine gd_newa X (a0 := (6, .inl (fun _ => 0))) 0 rfl rfl (fun _ z => z) (fun _ => rfl) (List.mem_cons_of_mem _ ac_int) (by decide) (by decide) (Nat.le_of_ble_eq_true rfl) (Nat.le_of_ble_eq_true rfl) (Nat.le_of_ble_eq_true rfl) d_Sr_init_12 (fun q1 => ?_)
  refine gd_wid (w' := [[(h0, .inr (5, [.ref g0, .null]))], [(q1, .inl (K 0, 6, .inl (fun _ => 0)))]]) rfl ?_
  refine gd_putF X (ci := 5) (C := R_Sr) (T := F_Sr) (N := 2) (ty := (.array .int)) (w' := [[(h0, .inr (5, [.ref g0, .ref q1]))], [(q1, .inl (K 0, 6, .inl (fun _ => 0)))]]) hin 0 0 rfl rfl rfl (in_Sr _) t_Sr t_Sr_ok n_Sr 1 (by decide) (List.mem_cons_of_mem _ fl_Sr_15) rfl rfl rfl (by decide +kernel) rfl rfl (Nat.le_of_ble_eq_true rfl) d_Sr_init_14 rfl ?_
  refine gd_weq (w' := [wd_Sr K (fun k => match k with | 0 => h0 | 1 => q1 | _ => h0) g0 (fun _ _ => 0)]) rfl ?_
  refine gd_widen (k := 1) (n := 6) (Nat.le_of_ble_eq_true rfl) (Nat.le_of_ble_eq_true rfl) ?_
  exact gd_vretC X ⟨(fun k => match k with | 0 => h0 | 1 => q1 | _ => h0), rfl, rfl⟩ hr hlk d_Sr_init_17
