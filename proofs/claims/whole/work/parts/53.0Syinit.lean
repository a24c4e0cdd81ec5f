abbrev b_Sy_init : ByteArray := prog_6_method_1_code
def y_Sy_init : MethodName := ⟨R_Sy, "<init>", "(I)V"⟩
def w_Sy_init : List Cond := .code y_Sy_init b_Sy_init 2 none :: TB
theorem k_Sy_init : Cond.code y_Sy_init b_Sy_init 2 none ∈ TB := tb_of 207 (by decide +kernel) (by decide +kernel)
theorem d_Sy_init_0 : decode b_Sy_init 0 = .ok (.aload_n 0, 1) := by decide +kernel
theorem d_Sy_init_1 : decode b_Sy_init 1 = .ok (.invokespecial 3, 3) := by decide +kernel
theorem d_Sy_init_4 : decode b_Sy_init 4 = .ok (.aload_n 0, 1) := by decide +kernel
theorem d_Sy_init_5 : decode b_Sy_init 5 = .ok (.iload_n 1, 1) := by decide +kernel
theorem d_Sy_init_6 : decode b_Sy_init 6 = .ok (.iconst 0, 1) := by decide +kernel
theorem d_Sy_init_7 : decode b_Sy_init 7 = .ok (.invokestatic 9, 3) := by decide +kernel
theorem d_Sy_init_10 : decode b_Sy_init 10 = .ok (.newarray .int, 2) := by decide +kernel
theorem d_Sy_init_12 : decode b_Sy_init 12 = .ok (.putfield 15, 3) := by decide +kernel
theorem d_Sy_init_15 : decode b_Sy_init 15 = .ok (.aload_n 0, 1) := by decide +kernel
theorem d_Sy_init_16 : decode b_Sy_init 16 = .ok (.iconst 0, 1) := by decide +kernel
theorem d_Sy_init_17 : decode b_Sy_init 17 = .ok (.putfield 21, 3) := by decide +kernel
theorem d_Sy_init_20 : decode b_Sy_init 20 = .ok (.return_, 1) := by decide +kernel
theorem ml_Sy_3 : Cond.methodLink R_Sy 3 objectInit ∈ TB := tb_of 208 (by decide +kernel) (by decide +kernel)
theorem oi_2 : Cond.instanceMethod objectInit ∈ TB := tb_of 78 (by decide +kernel) (by decide +kernel)
theorem oi_3 : Cond.code objectInit ⟨#[0xb1]⟩ 1 none ∈ TB := tb_of 79 (by decide +kernel) (by decide +kernel)
theorem ml_Sy_9 : Cond.methodLink R_Sy 9 ⟨"java/lang/Math", "max", "(II)I"⟩ ∈ TB := tb_of 209 (by decide +kernel) (by decide +kernel)
theorem mw_max_1 : Cond.static Lib.Math.max.name ∈ TB := tb_of 210 (by decide +kernel) (by decide +kernel)
theorem mw_max_2 : Cond.initialized "java/lang/Math" ∈ TB := tb_of 68 (by decide +kernel) (by decide +kernel)
theorem mw_max_3 : Cond.code Lib.Math.max.name Lib.Math.max.code 2 (some .int) ∈ TB := tb_of 211 (by decide +kernel) (by decide +kernel)
theorem ac_int : Cond.arrayClass .int ∈ TB := tb_of 128 (by decide +kernel) (by decide +kernel)
abbrev rm_Sy_init (n : Nat) : Room := { frames := 1, cells := 1, slots := n, locals := 21 }
set_option maxHeartbeats 4000000 in
set_option maxRecDepth 100000 in
theorem c_Sy_init (l : Launch) (D : va_G) (K : Nat → ClassId) (h0 : Nat) (v1 : Int32) (n : Nat) (ev : v1 = nI n) (hn : n ≤ 1000) : CMet l y_Sy_init w_Sy_init (rm_Sy_init n) D classes (tyK K) [.ref h0, .int v1] [[(h0, .inr (0, [.null, .int 0]))]] (fun w1 => ∃ (a_self : Nat → Nat), a_self 0 = h0 ∧ w1 = [wd_Sy K a_self n (fun _ _ => 0)]) 1 n := by
  refine cm_of R_Sy (by decide) rfl rfl rfl (Nat.le_of_ble_eq_true rfl) ?_
  intro p e s m below meth c A X hr hlk hin
  refine gd_loc (lv' := [(0, .ref h0), (1, .int v1)]) [0, 1] rfl ?_
  refine gd_aload_n X d_Sy_init_0 0 rfl ?_
  refine gd_oinit X (List.mem_cons_of_mem _ ml_Sy_3) (List.mem_cons_of_mem _ oi_2) (List.mem_cons_of_mem _ oi_3) (Nat.le_of_ble_eq_true rfl) (Nat.le_of_ble_eq_true rfl) d_Sy_init_1 ?_
  refine gd_aload_n X d_Sy_init_4 0 rfl ?_
  refine gd_iload_n X d_Sy_init_5 1 rfl ?_
  refine gd_iconst X (v := 0) d_Sy_init_6 (by decide) ?_
  refine gd_mmax X (List.mem_cons_of_mem _ ml_Sy_9) (List.mem_cons_of_mem _ mw_max_1) (List.mem_cons_of_mem _ mw_max_2) (List.mem_cons_of_mem _ mw_max_3) (Nat.le_of_ble_eq_true rfl) (Nat.le_of_ble_eq_true rfl) ⟨(Nat.le_of_ble_eq_true rfl), Nat.zero_le _⟩ d_Sy_init_7 ?_
  refine gd_topi (y := nI n) (by rw [ev, if_neg (nI_pos (by omega))]) ?_
  refine gd_newa X (a0 := (n, .inl (fun _ => 0))) 0 rfl rfl (fun _ z => z) (fun _ => rfl) (List.mem_cons_of_mem _ ac_int) (nI_pos (by omega)) (nI_clamp (by omega)) (by show n * 4 ≤ _; omega) (Nat.le_of_ble_eq_true rfl) (by show _ ≤ n; omega) d_Sy_init_10 (fun q1 => ?_)
  refine gd_wid (w' := [[(h0, .inr (0, [.null, .int 0]))], [(q1, .inl (K 0, n, .inl (fun _ => 0)))]]) rfl ?_
  refine gd_putF X (ci := 0) (C := R_Sy) (T := F_Sy) (N := 2) (ty := (.array .int)) (w' := [[(h0, .inr (0, [.ref q1, .int 0]))], [(q1, .inl (K 0, n, .inl (fun _ => 0)))]]) hin 0 0 rfl rfl rfl (in_Sy _) t_Sy t_Sy_ok n_Sy 0 (by decide) (List.mem_cons_of_mem _ fl_Sy_15) rfl rfl rfl (by decide +kernel) rfl rfl (Nat.le_of_ble_eq_true rfl) d_Sy_init_12 rfl ?_
  refine gd_aload_n X d_Sy_init_15 0 rfl ?_
  refine gd_iconst X (v := 0) d_Sy_init_16 (by decide) ?_
  refine gd_put X (ci := 0) (C := R_Sy) (T := F_Sy) (N := 2) (ty := .int) (w' := [[(h0, .inr (0, [.ref q1, .int 0]))], [(q1, .inl (K 0, n, .inl (fun _ => 0)))]]) 0 0 rfl rfl rfl (in_Sy _) t_Sy t_Sy_ok n_Sy 1 (by decide) (List.mem_cons_of_mem _ fl_Sy_21) rfl rfl (by decide +kernel) rfl rfl (Nat.le_of_ble_eq_true rfl) d_Sy_init_17 rfl ?_
  refine gd_weq (w' := [wd_Sy K (fun k => match k with | 0 => h0 | 1 => q1 | _ => h0) n (fun _ _ => 0)]) rfl ?_
  refine gd_widen (k := 1) (n := n) (Nat.le_refl _) (by omega) ?_
  exact gd_vretC X ⟨(fun k => match k with | 0 => h0 | 1 => q1 | _ => h0), rfl, rfl⟩ hr hlk d_Sy_init_20
