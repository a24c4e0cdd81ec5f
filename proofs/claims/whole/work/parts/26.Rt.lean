abbrev b_Rt_put : ByteArray := prog_1_method_5_code
def y_Rt_put : MethodName := ⟨R_Rt, "put", "(I)I"⟩
def w_Rt_put : List Cond := .code y_Rt_put b_Rt_put 2 (some .int) :: TB
theorem k_Rt_put : Cond.code y_Rt_put b_Rt_put 2 (some .int) ∈ TB := tb_of 320 (by decide +kernel) (by decide +kernel)
theorem d_Rt_put_0 : decode b_Rt_put 0 = .ok (.aload_n 0, 1) := by decide +kernel
theorem d_Rt_put_1 : decode b_Rt_put 1 = .ok (.getfield 12, 3) := by decide +kernel
theorem d_Rt_put_4 : decode b_Rt_put 4 = .ok (.iload_n 1, 1) := by decide +kernel
theorem d_Rt_put_5 : decode b_Rt_put 5 = .ok (.invokevirtual 73, 3) := by decide +kernel
theorem d_Rt_put_8 : decode b_Rt_put 8 = .ok (.ireturn, 1) := by decide +kernel
theorem ml_Rt_73 : Cond.methodLink R_Rt 73 ⟨"RuleTrees$Grammar", "putSymbol", "(I)I"⟩ ∈ TB := tb_of 321 (by decide +kernel) (by decide +kernel)
theorem u_Gr_putSymbol : (Cond.instanceMethod y_Gr_putSymbol ∈ TB ∧ Cond.selects R_Gr y_Gr_putSymbol y_Gr_putSymbol ∈ TB) ∧ Cond.initialized R_Gr ∈ TB ∧ Cond.code y_Gr_putSymbol b_Gr_putSymbol 4 (some .int) ∈ TB := ⟨⟨(tb_of 322 (by decide +kernel) (by decide +kernel)), (tb_of 323 (by decide +kernel) (by decide +kernel))⟩, (tb_of 63 (by decide +kernel) (by decide +kernel)), k_Gr_putSymbol⟩
abbrev rm_Rt_put : Room := { frames := 2, cells := 0, slots := 0, locals := 46 }
def f_Rt_put_0 (N : Nat) (s_self s_grammar : Nat → Nat → Int32) (v1 : Int32) : Option ((Int32) × (Nat → Nat → Int32)) :=
  bd2 (m_Gr_putSymbol N s_grammar v1) fun r_1 s_grammar_2 =>
  some ((r_1), s_grammar_2)
set_option maxHeartbeats 4000000 in
set_option maxRecDepth 100000 in
theorem t_Rt_put_0 {p : Program} {l : Launch} {e : Env} {s : State} {m : MethodId} {args : Array Value} {below : List Frame} {meth : Method} {c : Code} {A : Nat → Prop} {D : va_G} {K : Nat → ClassId} (a_self a_grammar a_chart a_grower a_short a_row a_tape a_least a_next : Nat → Nat) (X : gx p s m args c b_Rt_put 2 R_Rt w_Rt_put D classes (tyK K) A) (hr : meth.sig.returnType = some .int) (hlk : meth.locks = false) (N : Nat) (r : Int32) (f_grammar : Nat → Nat → Int32) (s_self s_grammar : Nat → Nat → Int32) (v1 : Int32) (h : f_Rt_put_0 N s_self s_grammar v1 = some (r, f_grammar)) : Gd p l e rm_Rt_put s m args below meth c 0 0 (MQ below (sq D classes (tyK K) (some (.int r)) [wd_Rt K a_self (a_grammar 0) (a_chart 0) (a_grower 0) (a_short 0) (a_row 0) (a_tape 0) (a_least 0) (a_next 0) s_self, wd_Gr K a_grammar f_grammar] A) args s 0 0 A) D classes A 2 0 [wd_Rt K a_self (a_grammar 0) (a_chart 0) (a_grower 0) (a_short 0) (a_row 0) (a_tape 0) (a_least 0) (a_next 0) s_self, wd_Gr K a_grammar s_grammar] [(0, .ref (a_self 0)), (1, .int v1)] [] := by
  unfold f_Rt_put_0 at h
  refine gd_aload_n X d_Rt_put_0 0 rfl ?_
  refine gd_get X (ci := 6) (C := R_Rt) (T := F_Rt) (N := 9) (v := .ref (a_grammar 0)) 0 0 rfl rfl rfl (in_Rt _) 0 (by decide) (List.mem_cons_of_mem _ fl_Rt_12) rfl rfl d_Rt_put_1 ?_
  refine gd_iload_n X d_Rt_put_4 1 rfl ?_
  obtain ⟨r_1, s_grammar_2, hc_3, h⟩ := bd2_e h
  refine gd_cI X (gd_V X (As := [.int v1]) (rest := []) (c_Gr_putSymbol l D K a_grammar N s_grammar v1 r_1 s_grammar_2 hc_3) 1 (gi_V ml_Rt_73 u_Gr_putSymbol) rfl ⟨rfl, rfl⟩ (by decide +kernel) ⟨by decide, by decide⟩ (ci := 1) rfl rfl rfl rfl rfl rfl (Nat.le_of_ble_eq_true rfl) ⟨Nat.zero_le _, Nat.zero_le _⟩ d_Rt_put_5) (w2 := [wd_Rt K a_self (a_grammar 0) (a_chart 0) (a_grower 0) (a_short 0) (a_row 0) (a_tape 0) (a_least 0) (a_next 0) s_self, wd_Gr K a_grammar s_grammar_2]) [1] [0] rfl rfl rfl rfl ⟨rfl, rfl⟩ rfl ?_
  cases h
  exact gd_iret X hr hlk d_Rt_put_8
def m_Rt_put (N : Nat) (s_self s_grammar : Nat → Nat → Int32) (v1 : Int32) : Option ((Int32) × (Nat → Nat → Int32)) := f_Rt_put_0 N s_self s_grammar v1
set_option maxHeartbeats 4000000 in
set_option maxRecDepth 100000 in
theorem c_Rt_put (l : Launch) (D : va_G) (K : Nat → ClassId) (a_self a_grammar a_chart a_grower a_short a_row a_tape a_least a_next : Nat → Nat) (N : Nat) (s_self s_grammar : Nat → Nat → Int32) (v1 : Int32) (r : Int32) (f_grammar : Nat → Nat → Int32) (h : m_Rt_put N s_self s_grammar v1 = some (r, f_grammar)) : SMet l y_Rt_put w_Rt_put rm_Rt_put D classes (tyK K) [.ref (a_self 0), .int v1] (some (.int r)) [wd_Rt K a_self (a_grammar 0) (a_chart 0) (a_grower 0) (a_short 0) (a_row 0) (a_tape 0) (a_least 0) (a_next 0) s_self, wd_Gr K a_grammar s_grammar] [wd_Rt K a_self (a_grammar 0) (a_chart 0) (a_grower 0) (a_short 0) (a_row 0) (a_tape 0) (a_least 0) (a_next 0) s_self, wd_Gr K a_grammar f_grammar] := by
  refine sm_of R_Rt (by decide) rfl rfl (Nat.le_of_ble_eq_true rfl) ?_
  intro p e s m below meth c A X hr hlk
  refine gd_loc (lv' := [(0, .ref (a_self 0)), (1, .int v1)]) [0, 1] rfl ?_
  exact t_Rt_put_0 a_self a_grammar a_chart a_grower a_short a_row a_tape a_least a_next X hr hlk N r f_grammar s_self s_grammar v1 h
abbrev b_Rt_close : ByteArray := prog_1_method_6_code
def y_Rt_close : MethodName := ⟨R_Rt, "close", "()I"⟩
def w_Rt_close : List Cond := .code y_Rt_close b_Rt_close 1 (some .int) :: TB
theorem k_Rt_close : Cond.code y_Rt_close b_Rt_close 1 (some .int) ∈ TB := tb_of 336 (by decide +kernel) (by decide +kernel)
theorem d_Rt_close_0 : decode b_Rt_close 0 = .ok (.aload_n 0, 1) := by decide +kernel
theorem d_Rt_close_1 : decode b_Rt_close 1 = .ok (.getfield 12, 3) := by decide +kernel
theorem d_Rt_close_4 : decode b_Rt_close 4 = .ok (.invokevirtual 76, 3) := by decide +kernel
theorem d_Rt_close_7 : decode b_Rt_close 7 = .ok (.ireturn, 1) := by decide +kernel
theorem ml_Rt_76 : Cond.methodLink R_Rt 76 ⟨"RuleTrees$Grammar", "closeRule", "()I"⟩ ∈ TB := tb_of 337 (by decide +kernel) (by decide +kernel)
theorem u_Gr_closeRule : (Cond.instanceMethod y_Gr_closeRule ∈ TB ∧ Cond.selects R_Gr y_Gr_closeRule y_Gr_closeRule ∈ TB) ∧ Cond.initialized R_Gr ∈ TB ∧ Cond.code y_Gr_closeRule b_Gr_closeRule 1 (some .int) ∈ TB := ⟨⟨(tb_of 338 (by decide +kernel) (by decide +kernel)), (tb_of 339 (by decide +kernel) (by decide +kernel))⟩, (tb_of 63 (by decide +kernel) (by decide +kernel)), k_Gr_closeRule⟩
abbrev rm_Rt_close : Room := { frames := 2, cells := 0, slots := 0, locals := 40 }
def f_Rt_close_0 (s_self s_grammar : Nat → Nat → Int32) : Option ((Int32) × (Nat → Nat → Int32)) :=
  bd2 (m_Gr_closeRule s_grammar) fun r_1 s_grammar_2 =>
  some ((r_1), s_grammar_2)
set_option maxHeartbeats 4000000 in
set_option maxRecDepth 100000 in
theorem t_Rt_close_0 {p : Program} {l : Launch} {e : Env} {s : State} {m : MethodId} {args : Array Value} {below : List Frame} {meth : Method} {c : Code} {A : Nat → Prop} {D : va_G} {K : Nat → ClassId} (a_self a_grammar a_chart a_grower a_short a_row a_tape a_least a_next : Nat → Nat) (X : gx p s m args c b_Rt_close 1 R_Rt w_Rt_close D classes (tyK K) A) (hr : meth.sig.returnType = some .int) (hlk : meth.locks = false) (r : Int32) (f_grammar : Nat → Nat → Int32) (s_self s_grammar : Nat → Nat → Int32) (h : f_Rt_close_0 s_self s_grammar = some (r, f_grammar)) : Gd p l e rm_Rt_close s m args below meth c 0 0 (MQ below (sq D classes (tyK K) (some (.int r)) [wd_Rt K a_self (a_grammar 0) (a_chart 0) (a_grower 0) (a_short 0) (a_row 0) (a_tape 0) (a_least 0) (a_next 0) s_self, wd_Gr K a_grammar f_grammar] A) args s 0 0 A) D classes A 1 0 [wd_Rt K a_self (a_grammar 0) (a_chart 0) (a_grower 0) (a_short 0) (a_row 0) (a_tape 0) (a_least 0) (a_next 0) s_self, wd_Gr K a_grammar s_grammar] [(0, .ref (a_self 0))] [] := by
  unfold f_Rt_close_0 at h
  refine gd_aload_n X d_Rt_close_0 0 rfl ?_
  refine gd_get X (ci := 6) (C := R_Rt) (T := F_Rt) (N := 9) (v := .ref (a_grammar 0)) 0 0 rfl rfl rfl (in_Rt _) 0 (by decide) (List.mem_cons_of_mem _ fl_Rt_12) rfl rfl d_Rt_close_1 ?_
  obtain ⟨r_1, s_grammar_2, hc_3, h⟩ := bd2_e h
  refine gd_cI X (gd_V X (As := []) (rest := []) (c_Gr_closeRule l D K a_grammar s_grammar r_1 s_grammar_2 hc_3) 0 (gi_V ml_Rt_76 u_Gr_closeRule) rfl ⟨rfl, rfl⟩ (by decide +kernel) ⟨by decide, by decide⟩ (ci := 1) rfl rfl rfl rfl rfl rfl (Nat.le_of_ble_eq_true rfl) ⟨Nat.zero_le _, Nat.zero_le _⟩ d_Rt_close_4) (w2 := [wd_Rt K a_self (a_grammar 0) (a_chart 0) (a_grower 0) (a_short 0) (a_row 0) (a_tape 0) (a_least 0) (a_next 0) s_self, wd_Gr K a_grammar s_grammar_2]) [1] [0] rfl rfl rfl rfl ⟨rfl, rfl⟩ rfl ?_
  cases h
  exact gd_iret X hr hlk d_Rt_close_7
def m_Rt_close (s_self s_grammar : Nat → Nat → Int32) : Option ((Int32) × (Nat → Nat → Int32)) := f_Rt_close_0 s_self s_grammar
set_option maxHeartbeats 4000000 in
set_option maxRecDepth 100000 in
theorem c_Rt_close (l : Launch) (D : va_G) (K : Nat → ClassId) (a_self a_grammar a_chart a_grower a_short a_row a_tape a_least a_next : Nat → Nat) (s_self s_grammar : Nat → Nat → Int32) (r : Int32) (f_grammar : Nat → Nat → Int32) (h : m_Rt_close s_self s_grammar = some (r, f_grammar)) : SMet l y_Rt_close w_Rt_close rm_Rt_close D classes (tyK K) [.ref (a_self 0)] (some (.int r)) [wd_Rt K a_self (a_grammar 0) (a_chart 0) (a_grower 0) (a_short 0) (a_row 0) (a_tape 0) (a_least 0) (a_next 0) s_self, wd_Gr K a_grammar s_grammar] [wd_Rt K a_self (a_grammar 0) (a_chart 0) (a_grower 0) (a_short 0) (a_row 0) (a_tape 0) (a_least 0) (a_next 0) s_self, wd_Gr K a_grammar f_grammar] := by
  refine sm_of R_Rt (by decide) rfl rfl (Nat.le_of_ble_eq_true rfl) ?_
  intro p e s m below meth c A X hr hlk
  refine gd_loc (lv' := [(0, .ref (a_self 0))]) [0] rfl ?_
  exact t_Rt_close_0 a_self a_grammar a_chart a_grower a_short a_row a_tape a_least a_next X hr hlk r f_grammar s_self s_grammar h
abbrev b_Rt_token : ByteArray := prog_1_method_7_code
def y_Rt_token : MethodName := ⟨R_Rt, "token", "(I)I"⟩
def w_Rt_token : List Cond := .code y_Rt_token b_Rt_token 2 (some .int) :: TB
theorem k_Rt_token : Cond.code y_Rt_token b_Rt_token 2 (some .int) ∈ TB := tb_of 348 (by decide +kernel) (by decide +kernel)
theorem d_Rt_token_0 : decode b_Rt_token 0 = .ok (.aload_n 0, 1) := by decide +kernel
theorem d_Rt_token_1 : decode b_Rt_token 1 = .ok (.getfield 12, 3) := by decide +kernel
theorem d_Rt_token_4 : decode b_Rt_token 4 = .ok (.iload_n 1, 1) := by decide +kernel
theorem d_Rt_token_5 : decode b_Rt_token 5 = .ok (.invokevirtual 79, 3) := by decide +kernel
theorem d_Rt_token_8 : decode b_Rt_token 8 = .ok (.ifCond .ne 5, 3) := by decide +kernel
theorem d_Rt_token_11 : decode b_Rt_token 11 = .ok (.iconst (-1), 1) := by decide +kernel
theorem d_Rt_token_12 : decode b_Rt_token 12 = .ok (.ireturn, 1) := by decide +kernel
theorem d_Rt_token_13 : decode b_Rt_token 13 = .ok (.aload_n 0, 1) := by decide +kernel
theorem d_Rt_token_14 : decode b_Rt_token 14 = .ok (.getfield 44, 3) := by decide +kernel
theorem d_Rt_token_17 : decode b_Rt_token 17 = .ok (.iload_n 1, 1) := by decide +kernel
theorem d_Rt_token_18 : decode b_Rt_token 18 = .ok (.invokevirtual 82, 3) := by decide +kernel
theorem d_Rt_token_21 : decode b_Rt_token 21 = .ok (.ifCond .eq 13, 3) := by decide +kernel
theorem d_Rt_token_24 : decode b_Rt_token 24 = .ok (.aload_n 0, 1) := by decide +kernel
theorem d_Rt_token_25 : decode b_Rt_token 25 = .ok (.getfield 44, 3) := by decide +kernel
theorem d_Rt_token_28 : decode b_Rt_token 28 = .ok (.getfield 85, 3) := by decide +kernel
theorem d_Rt_token_31 : decode b_Rt_token 31 = .ok (.goto 4, 3) := by decide +kernel
theorem d_Rt_token_34 : decode b_Rt_token 34 = .ok (.iconst (-1), 1) := by decide +kernel
theorem d_Rt_token_35 : decode b_Rt_token 35 = .ok (.ireturn, 1) := by decide +kernel
theorem ml_Rt_79 : Cond.methodLink R_Rt 79 ⟨"RuleTrees$Grammar", "hasSymbol", "(I)Z"⟩ ∈ TB := tb_of 349 (by decide +kernel) (by decide +kernel)
theorem fl_Rt_44 : Cond.fieldLink R_Rt 44 "RuleTrees" "row" "LRuleTrees$Symbols;" ∈ TB := tb_of 265 (by decide +kernel) (by decide +kernel)
theorem ml_Rt_82 : Cond.methodLink R_Rt 82 ⟨"RuleTrees$Symbols", "append", "(I)Z"⟩ ∈ TB := tb_of 350 (by decide +kernel) (by decide +kernel)
theorem fl_Rt_85 : Cond.fieldLink R_Rt 85 "RuleTrees$Symbols" "length" "I" ∈ TB := tb_of 216 (by decide +kernel) (by decide +kernel)
abbrev rm_Rt_token : Room := { frames := 1, cells := 0, slots := 0, locals := 21 }
def f_Rt_token_0 (n_row : Nat) (s_self s_grammar s_row : Nat → Nat → Int32) (v1 : Int32) : Option ((Int32) × (Nat → Nat → Int32)) :=
  bd1 (m_Gr_hasSymbol s_grammar v1) fun r_1 =>
  if r_1 = 0 then
    some (((-1)), s_row)
  else
    bd2 (m_Sy_append n_row s_row v1) fun r_4 s_row_5 =>
    if r_4 = 0 then
      some (((-1)), s_row_5)
    else
      some ((s_row_5 0 1), s_row_5)
set_option maxHeartbeats 4000000 in
set_option maxRecDepth 100000 in
theorem t_Rt_token_0 {p : Program} {l : Launch} {e : Env} {s : State} {m : MethodId} {args : Array Value} {below : List Frame} {meth : Method} {c : Code} {A : Nat → Prop} {D : va_G} {K : Nat → ClassId} (a_self a_grammar a_chart a_grower a_short a_row a_tape a_least a_next : Nat → Nat) (n_row : Nat) (X : gx p s m args c b_Rt_token 2 R_Rt w_Rt_token D classes (tyK K) A) (hr : meth.sig.returnType = some .int) (hlk : meth.locks = false) (r : Int32) (f_row : Nat → Nat → Int32) (s_self s_grammar s_row : Nat → Nat → Int32) (v1 : Int32) (h : f_Rt_token_0 n_row s_self s_grammar s_row v1 = some (r, f_row)) : Gd p l e rm_Rt_token s m args below meth c 0 0 (MQ below (sq D classes (tyK K) (some (.int r)) [wd_Rt K a_self (a_grammar 0) (a_chart 0) (a_grower 0) (a_short 0) (a_row 0) (a_tape 0) (a_least 0) (a_next 0) s_self, wd_Gr K a_grammar s_grammar, wd_Sy K a_row n_row f_row] A) args s 0 0 A) D classes A 2 0 [wd_Rt K a_self (a_grammar 0) (a_chart 0) (a_grower 0) (a_short 0) (a_row 0) (a_tape 0) (a_least 0) (a_next 0) s_self, wd_Gr K a_grammar s_grammar, wd_Sy K a_row n_row s_row] [(0, .ref (a_self 0)), (1, .int v1)] [] := by
  unfold f_Rt_token_0 at h
  refine gd_aload_n X d_Rt_token_0 0 rfl ?_
  refine gd_get X (ci := 6) (C := R_Rt) (T := F_Rt) (N := 9) (v := .ref (a_grammar 0)) 0 0 rfl rfl rfl (in_Rt _) 0 (by decide) (List.mem_cons_of_mem _ fl_Rt_12) rfl rfl d_Rt_token_1 ?_
  refine gd_iload_n X d_Rt_token_4 1 rfl ?_
  obtain ⟨r_1, hc_2, h⟩ := bd1_e h
  refine gd_pI X (gd_V X (As := [.int v1]) (rest := []) (c_Gr_hasSymbol l D K a_grammar s_grammar v1 r_1 hc_2) 1 (gi_V ml_Rt_79 u_Gr_hasSymbol) rfl ⟨rfl, rfl⟩ (by decide +kernel) ⟨by decide, by decide⟩ (ci := 1) rfl rfl rfl rfl rfl rfl (Nat.le_of_ble_eq_true rfl) ⟨Nat.zero_le _, Nat.zero_le _⟩ d_Rt_token_5) [1] rfl rfl ?_
  refine gd_if_ne X (tgt := 13) d_Rt_token_8 (by decide) (fun c_3 => ?_) (fun c_3 => ?_)
  · replace h := it_n c_3 h
    refine gd_aload_n X d_Rt_token_13 0 rfl ?_
    refine gd_get X (ci := 6) (C := R_Rt) (T := F_Rt) (N := 9) (v := .ref (a_row 0)) 0 0 rfl rfl rfl (in_Rt _) 4 (by decide) (List.mem_cons_of_mem _ fl_Rt_44) rfl rfl d_Rt_token_14 ?_
    refine gd_iload_n X d_Rt_token_17 1 rfl ?_
    obtain ⟨r_4, s_row_5, hc_6, h⟩ := bd2_e h
    refine gd_cI X (gd_V X (As := [.int v1]) (rest := []) (c_Sy_append l D K a_row n_row s_row v1 r_4 s_row_5 hc_6) 1 (gi_V ml_Rt_82 u_Sy_append) rfl ⟨rfl, rfl⟩ (by decide +kernel) ⟨by decide, by decide⟩ (ci := 0) rfl rfl rfl rfl rfl rfl (Nat.le_of_ble_eq_true rfl) ⟨Nat.zero_le _, Nat.zero_le _⟩ d_Rt_token_18) (w2 := [wd_Rt K a_self (a_grammar 0) (a_chart 0) (a_grower 0) (a_short 0) (a_row 0) (a_tape 0) (a_least 0) (a_next 0) s_self, wd_Gr K a_grammar s_grammar, wd_Sy K a_row n_row s_row_5]) [2] [0, 1] rfl rfl rfl rfl ⟨rfl, rfl⟩ rfl ?_
    refine gd_if_eq X (tgt := 34) d_Rt_token_21 (by decide) (fun c_7 => ?_) (fun c_7 => ?_)
    · replace h := it_p c_7 h
      refine gd_iconst X (v := (-1)) d_Rt_token_34 (by decide) ?_
      cases h
      exact gd_iret X hr hlk d_Rt_token_35
    · replace h := it_n c_7 h
      refine gd_aload_n X d_Rt_token_24 0 rfl ?_
      refine gd_get X (ci := 6) (C := R_Rt) (T := F_Rt) (N := 9) (v := .ref (a_row 0)) 0 0 rfl rfl rfl (in_Rt _) 4 (by decide) (List.mem_cons_of_mem _ fl_Rt_44) rfl rfl d_Rt_token_25 ?_
      refine gd_get X (ci := 0) (C := R_Sy) (T := F_Sy) (N := 2) (v := .int (s_row_5 0 1)) 2 0 rfl rfl rfl (in_Sy _) 1 (by decide) (List.mem_cons_of_mem _ fl_Rt_85) rfl rfl d_Rt_token_28 ?_
      refine gd_goto X (tgt := 35) d_Rt_token_31 (by decide) ?_
      cases h
      exact gd_iret X hr hlk d_Rt_token_35
  · replace h := it_p c_3 h
    refine gd_iconst X (v := (-1)) d_Rt_token_11 (by decide) ?_
    cases h
    exact gd_iret X hr hlk d_Rt_token_12
def m_Rt_token (n_row : Nat) (s_self s_grammar s_row : Nat → Nat → Int32) (v1 : Int32) : Option ((Int32) × (Nat → Nat → Int32)) := f_Rt_token_0 n_row s_self s_grammar s_row v1
set_option maxHeartbeats 4000000 in
set_option maxRecDepth 100000 in
theorem c_Rt_token (l : Launch) (D : va_G) (K : Nat → ClassId) (a_self a_grammar a_chart a_grower a_short a_row a_tape a_least a_next : Nat → Nat) (n_row : Nat) (s_self s_grammar s_row : Nat → Nat → Int32) (v1 : Int32) (r : Int32) (f_row : Nat → Nat → Int32) (h : m_Rt_token n_row s_self s_grammar s_row v1 = some (r, f_row)) : SMet l y_Rt_token w_Rt_token rm_Rt_token D classes (tyK K) [.ref (a_self 0), .int v1] (some (.int r)) [wd_Rt K a_self (a_grammar 0) (a_chart 0) (a_grower 0) (a_short 0) (a_row 0) (a_tape 0) (a_least 0) (a_next 0) s_self, wd_Gr K a_grammar s_grammar, wd_Sy K a_row n_row s_row] [wd_Rt K a_self (a_grammar 0) (a_chart 0) (a_grower 0) (a_short 0) (a_row 0) (a_tape 0) (a_least 0) (a_next 0) s_self, wd_Gr K a_grammar s_grammar, wd_Sy K a_row n_row f_row] := by
  refine sm_of R_Rt (by decide) rfl rfl (Nat.le_of_ble_eq_true rfl) ?_
  intro p e s m below meth c A X hr hlk
  refine gd_loc (lv' := [(0, .ref (a_self 0)), (1, .int v1)]) [0, 1] rfl ?_
  exact t_Rt_token_0 a_self a_grammar a_chart a_grower a_short a_row a_tape a_least a_next n_row X hr hlk r f_row s_self s_grammar s_row v1 h
abbrev b_Rt_drop : ByteArray := prog_1_method_8_code
def y_Rt_drop : MethodName := ⟨R_Rt, "drop", "()I"⟩
def w_Rt_drop : List Cond := .code y_Rt_drop b_Rt_drop 1 (some .int) :: TB
theorem k_Rt_drop : Cond.code y_Rt_drop b_Rt_drop 1 (some .int) ∈ TB := tb_of 357 (by decide +kernel) (by decide +kernel)
theorem d_Rt_drop_0 : decode b_Rt_drop 0 = .ok (.aload_n 0, 1) := by decide +kernel
theorem d_Rt_drop_1 : decode b_Rt_drop 1 = .ok (.getfield 44, 3) := by decide +kernel
theorem d_Rt_drop_4 : decode b_Rt_drop 4 = .ok (.invokevirtual 88, 3) := by decide +kernel
theorem d_Rt_drop_7 : decode b_Rt_drop 7 = .ok (.ireturn, 1) := by decide +kernel
theorem ml_Rt_88 : Cond.methodLink R_Rt 88 ⟨"RuleTrees$Symbols", "empty", "()I"⟩ ∈ TB := tb_of 358 (by decide +kernel) (by decide +kernel)
abbrev rm_Rt_drop : Room := { frames := 1, cells := 0, slots := 0, locals := 21 }
def f_Rt_drop_0 (n_row : Nat) (s_self s_row : Nat → Nat → Int32) : Option ((Int32) × (Nat → Nat → Int32)) :=
  bd2 (m_Sy_empty n_row s_row) fun r_1 s_row_2 =>
  some ((r_1), s_row_2)
set_option maxHeartbeats 4000000 in
set_option maxRecDepth 100000 in
theorem t_Rt_drop_0 {p : Program} {l : Launch} {e : Env} {s : State} {m : MethodId} {args : Array Value} {below : List Frame} {meth : Method} {c : Code} {A : Nat → Prop} {D : va_G} {K : Nat → ClassId} (a_self a_grammar a_chart a_grower a_short a_row a_tape a_least a_next : Nat → Nat) (n_row : Nat) (X : gx p s m args c b_Rt_drop 1 R_Rt w_Rt_drop D classes (tyK K) A) (hr : meth.sig.returnType = some .int) (hlk : meth.locks = false) (r : Int32) (f_row : Nat → Nat → Int32) (s_self s_row : Nat → Nat → Int32) (h : f_Rt_drop_0 n_row s_self s_row = some (r, f_row)) : Gd p l e rm_Rt_drop s m args below meth c 0 0 (MQ below (sq D classes (tyK K) (some (.int r)) [wd_Rt K a_self (a_grammar 0) (a_chart 0) (a_grower 0) (a_short 0) (a_row 0) (a_tape 0) (a_least 0) (a_next 0) s_self, wd_Sy K a_row n_row f_row] A) args s 0 0 A) D classes A 1 0 [wd_Rt K a_self (a_grammar 0) (a_chart 0) (a_grower 0) (a_short 0) (a_row 0) (a_tape 0) (a_least 0) (a_next 0) s_self, wd_Sy K a_row n_row s_row] [(0, .ref (a_self 0))] [] := by
  unfold f_Rt_drop_0 at h
  refine gd_aload_n X d_Rt_drop_0 0 rfl ?_
  refine gd_get X (ci := 6) (C := R_Rt) (T := F_Rt) (N := 9) (v := .ref (a_row 0)) 0 0 rfl rfl rfl (in_Rt _) 4 (by decide) (List.mem_cons_of_mem _ fl_Rt_44) rfl rfl d_Rt_drop_1 ?_
  obtain ⟨r_1, s_row_2, hc_3, h⟩ := bd2_e h
  refine gd_cI X (gd_V X (As := []) (rest := []) (c_Sy_empty l D K a_row n_row s_row r_1 s_row_2 hc_3) 0 (gi_V ml_Rt_88 u_Sy_empty) rfl ⟨rfl, rfl⟩ (by decide +kernel) ⟨by decide, by decide⟩ (ci := 0) rfl rfl rfl rfl rfl rfl (Nat.le_of_ble_eq_true rfl) ⟨Nat.zero_le _, Nat.zero_le _⟩ d_Rt_drop_4) (w2 := [wd_Rt K a_self (a_grammar 0) (a_chart 0) (a_grower 0) (a_short 0) (a_row 0) (a_tape 0) (a_least 0) (a_next 0) s_self, wd_Sy K a_row n_row s_row_2]) [1] [0] rfl rfl rfl rfl ⟨rfl, rfl⟩ rfl ?_
  cases h
  exact gd_iret X hr hlk d_Rt_drop_7
def m_Rt_drop (n_row : Nat) (s_self s_row : Nat → Nat → Int32) : Option ((Int32) × (Nat → Nat → Int32)) := f_Rt_drop_0 n_row s_self s_row
set_option maxHeartbeats 4000000 in
set_option maxRecDepth 100000 in
theorem c_Rt_drop (l : Launch) (D : va_G) (K : Nat → ClassId) (a_self a_grammar a_chart a_grower a_short a_row a_tape a_least a_next : Nat → Nat) (n_row : Nat) (s_self s_row : Nat → Nat → Int32) (r : Int32) (f_row : Nat → Nat → Int32) (h : m_Rt_drop n_row s_self s_row = some (r, f_row)) : SMet l y_Rt_drop w_Rt_drop rm_Rt_drop D classes (tyK K) [.ref (a_self 0)] (some (.int r)) [wd_Rt K a_self (a_grammar 0) (a_chart 0) (a_grower 0) (a_short 0) (a_row 0) (a_tape 0) (a_least 0) (a_next 0) s_self, wd_Sy K a_row n_row s_row] [wd_Rt K a_self (a_grammar 0) (a_chart 0) (a_grower 0) (a_short 0) (a_row 0) (a_tape 0) (a_least 0) (a_next 0) s_self, wd_Sy K a_row n_row f_row] := by
  refine sm_of R_Rt (by decide) rfl rfl (Nat.le_of_ble_eq_true rfl) ?_
  intro p e s m below meth c A X hr hlk
  refine gd_loc (lv' := [(0, .ref (a_self 0))]) [0] rfl ?_
  exact t_Rt_drop_0 a_self a_grammar a_chart a_grower a_short a_row a_tape a_least a_next n_row X hr hlk r f_row s_self s_row h
abbrev b_Rt_trees : ByteArray := prog_1_method_9_code
def y_Rt_trees : MethodName := ⟨R_Rt, "trees", "(III)I"⟩
def w_Rt_trees : List Cond := .code y_Rt_trees b_Rt_trees 5 (some .int) :: TB
theorem k_Rt_trees : Cond.code y_Rt_trees b_Rt_trees 5 (some .int) ∈ TB := tb_of 365 (by decide +kernel) (by decide +kernel)
theorem d_Rt_trees_0 : decode b_Rt_trees 0 = .ok (.aload_n 0, 1) := by decide +kernel
theorem d_Rt_trees_1 : decode b_Rt_trees 1 = .ok (.getfield 12, 3) := by decide +kernel
theorem d_Rt_trees_4 : decode b_Rt_trees 4 = .ok (.iload_n 1, 1) := by decide +kernel
theorem d_Rt_trees_5 : decode b_Rt_trees 5 = .ok (.invokevirtual 91, 3) := by decide +kernel
theorem d_Rt_trees_8 : decode b_Rt_trees 8 = .ok (.ifCond .eq 23, 3) := by decide +kernel
theorem d_Rt_trees_11 : decode b_Rt_trees 11 = .ok (.iload_n 2, 1) := by decide +kernel
theorem d_Rt_trees_12 : decode b_Rt_trees 12 = .ok (.ifCond .lt 19, 3) := by decide +kernel
theorem d_Rt_trees_15 : decode b_Rt_trees 15 = .ok (.iload_n 2, 1) := by decide +kernel
theorem d_Rt_trees_16 : decode b_Rt_trees 16 = .ok (.iload_n 3, 1) := by decide +kernel
theorem d_Rt_trees_17 : decode b_Rt_trees 17 = .ok (.if_icmp .ge 14, 3) := by decide +kernel
theorem d_Rt_trees_20 : decode b_Rt_trees 20 = .ok (.iload_n 3, 1) := by decide +kernel
theorem d_Rt_trees_21 : decode b_Rt_trees 21 = .ok (.aload_n 0, 1) := by decide +kernel
theorem d_Rt_trees_22 : decode b_Rt_trees 22 = .ok (.getfield 44, 3) := by decide +kernel
theorem d_Rt_trees_25 : decode b_Rt_trees 25 = .ok (.getfield 85, 3) := by decide +kernel
theorem d_Rt_trees_28 : decode b_Rt_trees 28 = .ok (.if_icmp .le 5, 3) := by decide +kernel
theorem d_Rt_trees_31 : decode b_Rt_trees 31 = .ok (.iconst (-1), 1) := by decide +kernel
theorem d_Rt_trees_32 : decode b_Rt_trees 32 = .ok (.ireturn, 1) := by decide +kernel
theorem d_Rt_trees_33 : decode b_Rt_trees 33 = .ok (.aload_n 0, 1) := by decide +kernel
theorem d_Rt_trees_34 : decode b_Rt_trees 34 = .ok (.getfield 21, 3) := by decide +kernel
theorem d_Rt_trees_37 : decode b_Rt_trees 37 = .ok (.aload_n 0, 1) := by decide +kernel
theorem d_Rt_trees_38 : decode b_Rt_trees 38 = .ok (.getfield 44, 3) := by decide +kernel
theorem d_Rt_trees_41 : decode b_Rt_trees 41 = .ok (.invokevirtual 94, 3) := by decide +kernel
theorem d_Rt_trees_44 : decode b_Rt_trees 44 = .ok (.aload_n 0, 1) := by decide +kernel
theorem d_Rt_trees_45 : decode b_Rt_trees 45 = .ok (.getfield 21, 3) := by decide +kernel
theorem d_Rt_trees_48 : decode b_Rt_trees 48 = .ok (.iload_n 1, 1) := by decide +kernel
theorem d_Rt_trees_49 : decode b_Rt_trees 49 = .ok (.iload_n 2, 1) := by decide +kernel
theorem d_Rt_trees_50 : decode b_Rt_trees 50 = .ok (.iload_n 3, 1) := by decide +kernel
theorem d_Rt_trees_51 : decode b_Rt_trees 51 = .ok (.invokevirtual 98, 3) := by decide +kernel
theorem d_Rt_trees_54 : decode b_Rt_trees 54 = .ok (.istore 4, 2) := by decide +kernel
theorem d_Rt_trees_56 : decode b_Rt_trees 56 = .ok (.iload 4, 2) := by decide +kernel
theorem d_Rt_trees_58 : decode b_Rt_trees 58 = .ok (.ldc 104, 2) := by decide +kernel
theorem d_Rt_trees_60 : decode b_Rt_trees 60 = .ok (.if_icmp .ne 6, 3) := by decide +kernel
theorem d_Rt_trees_63 : decode b_Rt_trees 63 = .ok (.bipush (-3), 2) := by decide +kernel
theorem d_Rt_trees_65 : decode b_Rt_trees 65 = .ok (.ireturn, 1) := by decide +kernel
theorem d_Rt_trees_66 : decode b_Rt_trees 66 = .ok (.iload 4, 2) := by decide +kernel
theorem d_Rt_trees_68 : decode b_Rt_trees 68 = .ok (.ldc 105, 2) := by decide +kernel
theorem d_Rt_trees_70 : decode b_Rt_trees 70 = .ok (.if_icmp .ne 8, 3) := by decide +kernel
theorem d_Rt_trees_73 : decode b_Rt_trees 73 = .ok (.bipush (-2), 2) := by decide +kernel
theorem d_Rt_trees_75 : decode b_Rt_trees 75 = .ok (.goto 5, 3) := by decide +kernel
theorem d_Rt_trees_78 : decode b_Rt_trees 78 = .ok (.iload 4, 2) := by decide +kernel
theorem d_Rt_trees_80 : decode b_Rt_trees 80 = .ok (.ireturn, 1) := by decide +kernel
theorem ml_Rt_91 : Cond.methodLink R_Rt 91 ⟨"RuleTrees$Grammar", "hasSort", "(I)Z"⟩ ∈ TB := tb_of 366 (by decide +kernel) (by decide +kernel)
theorem fl_Rt_21 : Cond.fieldLink R_Rt 21 "RuleTrees" "chart" "LRuleTrees$Chart;" ∈ TB := tb_of 262 (by decide +kernel) (by decide +kernel)
theorem ml_Rt_94 : Cond.methodLink R_Rt 94 ⟨"RuleTrees$Chart", "catchUp", "(LRuleTrees$Symbols;)V"⟩ ∈ TB := tb_of 367 (by decide +kernel) (by decide +kernel)
theorem u_Ch_catchUp : (Cond.instanceMethod y_Ch_catchUp ∈ TB ∧ Cond.selects R_Ch y_Ch_catchUp y_Ch_catchUp ∈ TB) ∧ Cond.initialized R_Ch ∈ TB ∧ Cond.code y_Ch_catchUp b_Ch_catchUp 4 none ∈ TB := ⟨⟨(tb_of 368 (by decide +kernel) (by decide +kernel)), (tb_of 369 (by decide +kernel) (by decide +kernel))⟩, (tb_of 64 (by decide +kernel) (by decide +kernel)), k_Ch_catchUp⟩
theorem ml_Rt_98 : Cond.methodLink R_Rt 98 ⟨"RuleTrees$Chart", "waysOf", "(III)I"⟩ ∈ TB := tb_of 549 (by decide +kernel) (by decide +kernel)
theorem kc_Rt_104 : Cond.constant R_Rt 104 1000002 ∈ TB := tb_of 550 (by decide +kernel) (by decide +kernel)
theorem kc_Rt_105 : Cond.constant R_Rt 105 1000001 ∈ TB := tb_of 551 (by decide +kernel) (by decide +kernel)
abbrev rm_Rt_trees : Room := { frames := 16, cells := 0, slots := 0, locals := 459 }
def f_Rt_trees_0 (N : Nat) (n_row : Nat) (s_self s_grammar s_chart s_table s_row : Nat → Nat → Int32) (v1 v2 v3 : Int32) : Option ((Int32) × (Nat → Nat → Int32) × (Nat → Nat → Int32)) :=
  bd1 (m_Gr_hasSort s_grammar v1) fun r_1 =>
  if r_1 = 0 then
    some (((-1)), s_chart, s_table)
  else
    if v2 < 0 then
      some (((-1)), s_chart, s_table)
    else
      if v3 ≤ v2 then
        some (((-1)), s_chart, s_table)
      else
        if v3 ≤ (s_row 0 1) then
          bd2 (m_Ch_catchUp N n_row s_chart s_grammar s_table s_row) fun s_chart_7 s_table_8 =>
          bd1 (m_Ch_waysOf s_chart_7 v1 v2 v3) fun r_10 =>
          if r_10 = 1000002 then
            some (((-3)), s_chart_7, s_table_8)
          else
            if r_10 = 1000001 then
              some (((-2)), s_chart_7, s_table_8)
            else
              some ((r_10), s_chart_7, s_table_8)
        else
          some (((-1)), s_chart, s_table)
set_option maxHeartbeats 4000000 in
set_option maxRecDepth 100000 in
theorem t_Rt_trees_0 {p : Program} {l : Launch} {e : Env} {s : State} {m : MethodId} {args : Array Value} {below : List Frame} {meth : Method} {c : Code} {A : Nat → Prop} {D : va_G} {K : Nat → ClassId} (a_self a_grammar a_chart a_table a_grower a_short a_row a_tape a_least a_next : Nat → Nat) (n_row : Nat) (X : gx p s m args c b_Rt_trees 5 R_Rt w_Rt_trees D classes (tyK K) A) (hr : meth.sig.returnType = some .int) (hlk : meth.locks = false) (N : Nat) (r : Int32) (f_chart f_table : Nat → Nat → Int32) (s_self s_grammar s_chart s_table s_row : Nat → Nat → Int32) (v1 v2 v3 : Int32) (h : f_Rt_trees_0 N n_row s_self s_grammar s_chart s_table s_row v1 v2 v3 = some (r, f_chart, f_table)) : Gd p l e rm_Rt_trees s m args below meth c 0 0 (MQ below (sq D classes (tyK K) (some (.int r)) [wd_Rt K a_self (a_grammar 0) (a_chart 0) (a_grower 0) (a_short 0) (a_row 0) (a_tape 0) (a_least 0) (a_next 0) s_self, wd_Gr K a_grammar s_grammar, wd_Ch K a_chart (a_grammar 0) (a_table 0) f_chart, wd_Tt K a_table f_table, wd_Sy K a_row n_row s_row] A) args s 0 0 A) D classes A 5 0 [wd_Rt K a_self (a_grammar 0) (a_chart 0) (a_grower 0) (a_short 0) (a_row 0) (a_tape 0) (a_least 0) (a_next 0) s_self, wd_Gr K a_grammar s_grammar, wd_Ch K a_chart (a_grammar 0) (a_table 0) s_chart, wd_Tt K a_table s_table, wd_Sy K a_row n_row s_row] [(0, .ref (a_self 0)), (1, .int v1), (2, .int v2), (3, .int v3)] [] := by
  unfold f_Rt_trees_0 at h
  refine gd_aload_n X d_Rt_trees_0 0 rfl ?_
  refine gd_get X (ci := 6) (C := R_Rt) (T := F_Rt) (N := 9) (v := .ref (a_grammar 0)) 0 0 rfl rfl rfl (in_Rt _) 0 (by decide) (List.mem_cons_of_mem _ fl_Rt_12) rfl rfl d_Rt_trees_1 ?_
  refine gd_iload_n X d_Rt_trees_4 1 rfl ?_
  obtain ⟨r_1, hc_2, h⟩ := bd1_e h
  refine gd_pI X (gd_V X (As := [.int v1]) (rest := []) (c_Gr_hasSort l D K a_grammar s_grammar v1 r_1 hc_2) 1 (gi_V ml_Rt_91 u_Gr_hasSort) rfl ⟨rfl, rfl⟩ (by decide +kernel) ⟨by decide, by decide⟩ (ci := 1) rfl rfl rfl rfl rfl rfl (Nat.le_of_ble_eq_true rfl) ⟨Nat.zero_le _, Nat.zero_le _⟩ d_Rt_trees_5) [1] rfl rfl ?_
  refine gd_if_eq X (tgt := 31) d_Rt_trees_8 (by decide) (fun c_3 => ?_) (fun c_3 => ?_)
  · replace h := it_p c_3 h
    refine gd_iconst X (v := (-1)) d_Rt_trees_31 (by decide) ?_
    cases h
    exact gd_iret X hr hlk d_Rt_trees_32
  · replace h := it_n c_3 h
    refine gd_iload_n X d_Rt_trees_11 2 rfl ?_
    refine gd_if_lt X (tgt := 31) d_Rt_trees_12 (by decide) (fun c_4 => ?_) (fun c_4 => ?_)
    · replace h := it_p c_4 h
      refine gd_iconst X (v := (-1)) d_Rt_trees_31 (by decide) ?_
      cases h
      exact gd_iret X hr hlk d_Rt_trees_32
    · replace h := it_n c_4 h
      refine gd_iload_n X d_Rt_trees_15 2 rfl ?_
      refine gd_iload_n X d_Rt_trees_16 3 rfl ?_
      refine gd_icmp_ge X (tgt := 31) d_Rt_trees_17 (by decide) (fun c_5 => ?_) (fun c_5 => ?_)
      · replace h := it_p c_5 h
        refine gd_iconst X (v := (-1)) d_Rt_trees_31 (by decide) ?_
        cases h
        exact gd_iret X hr hlk d_Rt_trees_32
      · replace h := it_n c_5 h
        refine gd_iload_n X d_Rt_trees_20 3 rfl ?_
        refine gd_aload_n X d_Rt_trees_21 0 rfl ?_
        refine gd_get X (ci := 6) (C := R_Rt) (T := F_Rt) (N := 9) (v := .ref (a_row 0)) 0 0 rfl rfl rfl (in_Rt _) 4 (by decide) (List.mem_cons_of_mem _ fl_Rt_44) rfl rfl d_Rt_trees_22 ?_
        refine gd_get X (ci := 0) (C := R_Sy) (T := F_Sy) (N := 2) (v := .int (s_row 0 1)) 4 0 rfl rfl rfl (in_Sy _) 1 (by decide) (List.mem_cons_of_mem _ fl_Rt_85) rfl rfl d_Rt_trees_25 ?_
        refine gd_icmp_le X (tgt := 33) d_Rt_trees_28 (by decide) (fun c_6 => ?_) (fun c_6 => ?_)
        · replace h := it_p c_6 h
          refine gd_aload_n X d_Rt_trees_33 0 rfl ?_
          refine gd_get X (ci := 6) (C := R_Rt) (T := F_Rt) (N := 9) (v := .ref (a_chart 0)) 0 0 rfl rfl rfl (in_Rt _) 1 (by decide) (List.mem_cons_of_mem _ fl_Rt_21) rfl rfl d_Rt_trees_34 ?_
          refine gd_aload_n X d_Rt_trees_37 0 rfl ?_
          refine gd_get X (ci := 6) (C := R_Rt) (T := F_Rt) (N := 9) (v := .ref (a_row 0)) 0 0 rfl rfl rfl (in_Rt _) 4 (by decide) (List.mem_cons_of_mem _ fl_Rt_44) rfl rfl d_Rt_trees_38 ?_
          obtain ⟨s_chart_7, s_table_8, hc_9, h⟩ := bd2_e h
          refine gd_cv X (gd_V X (As := [.ref (a_row 0)]) (rest := []) (c_Ch_catchUp l D K a_chart a_grammar a_table a_row n_row N s_chart s_grammar s_table s_row s_chart_7 s_table_8 hc_9) 1 (gi_V ml_Rt_94 u_Ch_catchUp) rfl ⟨rfl, rfl⟩ (by decide +kernel) ⟨by decide, by decide⟩ (ci := 3) rfl rfl rfl rfl rfl rfl (Nat.le_of_ble_eq_true rfl) ⟨Nat.zero_le _, Nat.zero_le _⟩ d_Rt_trees_41) (w2 := [wd_Rt K a_self (a_grammar 0) (a_chart 0) (a_grower 0) (a_short 0) (a_row 0) (a_tape 0) (a_least 0) (a_next 0) s_self, wd_Gr K a_grammar s_grammar, wd_Ch K a_chart (a_grammar 0) (a_table 0) s_chart_7, wd_Tt K a_table s_table_8, wd_Sy K a_row n_row s_row]) [2, 1, 3, 4] [0] rfl rfl rfl rfl ⟨rfl, rfl⟩ rfl ?_
          refine gd_aload_n X d_Rt_trees_44 0 rfl ?_
          refine gd_get X (ci := 6) (C := R_Rt) (T := F_Rt) (N := 9) (v := .ref (a_chart 0)) 0 0 rfl rfl rfl (in_Rt _) 1 (by decide) (List.mem_cons_of_mem _ fl_Rt_21) rfl rfl d_Rt_trees_45 ?_
          refine gd_iload_n X d_Rt_trees_48 1 rfl ?_
          refine gd_iload_n X d_Rt_trees_49 2 rfl ?_
          refine gd_iload_n X d_Rt_trees_50 3 rfl ?_
          obtain ⟨r_10, hc_11, h⟩ := bd1_e h
          refine gd_pI X (gd_V X (As := [.int v1, .int v2, .int v3]) (rest := []) (c_Ch_waysOf l D K a_chart a_grammar a_table s_chart_7 v1 v2 v3 r_10 hc_11) 3 (gi_V ml_Rt_98 u_Ch_waysOf) rfl ⟨rfl, rfl⟩ (by decide +kernel) ⟨by decide, by decide⟩ (ci := 3) rfl rfl rfl rfl rfl rfl (Nat.le_of_ble_eq_true rfl) ⟨Nat.zero_le _, Nat.zero_le _⟩ d_Rt_trees_51) [2] rfl rfl ?_
          refine gd_istore X (lv' := [(4, .int r_10), (0, .ref (a_self 0)), (1, .int v1), (2, .int v2), (3, .int v3)]) d_Rt_trees_54 (by decide) rfl ?_
          refine gd_iload X d_Rt_trees_56 0 rfl ?_
          refine gd_ldc X (v := 1000002) (List.mem_cons_of_mem _ kc_Rt_104) d_Rt_trees_58 ?_
          refine gd_icmp_ne X (tgt := 66) d_Rt_trees_60 (by decide) (fun c_12 => ?_) (fun c_12 => ?_)
          · replace h := it_n c_12 h
            refine gd_iload X d_Rt_trees_66 0 rfl ?_
            refine gd_ldc X (v := 1000001) (List.mem_cons_of_mem _ kc_Rt_105) d_Rt_trees_68 ?_
            refine gd_icmp_ne X (tgt := 78) d_Rt_trees_70 (by decide) (fun c_13 => ?_) (fun c_13 => ?_)
            · replace h := it_n c_13 h
              refine gd_iload X d_Rt_trees_78 0 rfl ?_
              cases h
              exact gd_iret X hr hlk d_Rt_trees_80
            · replace h := it_p c_13 h
              refine gd_bipush X (v := (-2)) d_Rt_trees_73 (by decide) ?_
              refine gd_goto X (tgt := 80) d_Rt_trees_75 (by decide) ?_
              cases h
              exact gd_iret X hr hlk d_Rt_trees_80
          · replace h := it_p c_12 h
            refine gd_bipush X (v := (-3)) d_Rt_trees_63 (by decide) ?_
            cases h
            exact gd_iret X hr hlk d_Rt_trees_65
        · replace h := it_n c_6 h
          refine gd_iconst X (v := (-1)) d_Rt_trees_31 (by decide) ?_
          cases h
          exact gd_iret X hr hlk d_Rt_trees_32
def m_Rt_trees (N : Nat) (n_row : Nat) (s_self s_grammar s_chart s_table s_row : Nat → Nat → Int32) (v1 v2 v3 : Int32) : Option ((Int32) × (Nat → Nat → Int32) × (Nat → Nat → Int32)) := f_Rt_trees_0 N n_row s_self s_grammar s_chart s_table s_row v1 v2 v3
set_option maxHeartbeats 4000000 in
set_option maxRecDepth 100000 in
theorem c_Rt_trees (l : Launch) (D : va_G) (K : Nat → ClassId) (a_self a_grammar a_chart a_table a_grower a_short a_row a_tape a_least a_next : Nat → Nat) (n_row : Nat) (N : Nat) (s_self s_grammar s_chart s_table s_row : Nat → Nat → Int32) (v1 v2 v3 : Int32) (r : Int32) (f_chart f_table : Nat → Nat → Int32) (h : m_Rt_trees N n_row s_self s_grammar s_chart s_table s_row v1 v2 v3 = some (r, f_chart, f_table)) : SMet l y_Rt_trees w_Rt_trees rm_Rt_trees D classes (tyK K) [.ref (a_self 0), .int v1, .int v2, .int v3] (some (.int r)) [wd_Rt K a_self (a_grammar 0) (a_chart 0) (a_grower 0) (a_short 0) (a_row 0) (a_tape 0) (a_least 0) (a_next 0) s_self, wd_Gr K a_grammar s_grammar, wd_Ch K a_chart (a_grammar 0) (a_table 0) s_chart, wd_Tt K a_table s_table, wd_Sy K a_row n_row s_row] [wd_Rt K a_self (a_grammar 0) (a_chart 0) (a_grower 0) (a_short 0) (a_row 0) (a_tape 0) (a_least 0) (a_next 0) s_self, wd_Gr K a_grammar s_grammar, wd_Ch K a_chart (a_grammar 0) (a_table 0) f_chart, wd_Tt K a_table f_table, wd_Sy K a_row n_row s_row] := by
  refine sm_of R_Rt (by decide) rfl rfl (Nat.le_of_ble_eq_true rfl) ?_
  intro p e s m below meth c A X hr hlk
  refine gd_loc (lv' := [(0, .ref (a_self 0)), (1, .int v1), (2, .int v2), (3, .int v3)]) [0, 1, 2, 3] rfl ?_
  exact t_Rt_trees_0 a_self a_grammar a_chart a_table a_grower a_short a_row a_tape a_least a_next n_row X hr hlk N r f_chart f_table s_self s_grammar s_chart s_table s_row v1 v2 v3 h
abbrev b_Rt_canHaveTree : ByteArray := prog_1_method_22_code
def y_Rt_canHaveTree : MethodName := ⟨R_Rt, "canHaveTree", "(II)Z"⟩
def w_Rt_canHaveTree : List Cond := .code y_Rt_canHaveTree b_Rt_canHaveTree 3 (some .boolean) :: TB
theorem k_Rt_canHaveTree : Cond.code y_Rt_canHaveTree b_Rt_canHaveTree 3 (some .boolean) ∈ TB := tb_of 559 (by decide +kernel) (by decide +kernel)
theorem d_Rt_canHaveTree_0 : decode b_Rt_canHaveTree 0 = .ok (.aload_n 0, 1) := by decide +kernel
theorem d_Rt_canHaveTree_1 : decode b_Rt_canHaveTree 1 = .ok (.getfield 12, 3) := by decide +kernel
theorem d_Rt_canHaveTree_4 : decode b_Rt_canHaveTree 4 = .ok (.iload_n 1, 1) := by decide +kernel
theorem d_Rt_canHaveTree_5 : decode b_Rt_canHaveTree 5 = .ok (.invokevirtual 91, 3) := by decide +kernel
theorem d_Rt_canHaveTree_8 : decode b_Rt_canHaveTree 8 = .ok (.ifCond .eq 26, 3) := by decide +kernel
theorem d_Rt_canHaveTree_11 : decode b_Rt_canHaveTree 11 = .ok (.iload_n 2, 1) := by decide +kernel
theorem d_Rt_canHaveTree_12 : decode b_Rt_canHaveTree 12 = .ok (.ifCond .eq 8, 3) := by decide +kernel
theorem d_Rt_canHaveTree_15 : decode b_Rt_canHaveTree 15 = .ok (.iload_n 2, 1) := by decide +kernel
theorem d_Rt_canHaveTree_16 : decode b_Rt_canHaveTree 16 = .ok (.iconst 1, 1) := by decide +kernel
theorem d_Rt_canHaveTree_17 : decode b_Rt_canHaveTree 17 = .ok (.if_icmp .ne 17, 3) := by decide +kernel
theorem d_Rt_canHaveTree_20 : decode b_Rt_canHaveTree 20 = .ok (.aload_n 0, 1) := by decide +kernel
theorem d_Rt_canHaveTree_21 : decode b_Rt_canHaveTree 21 = .ok (.getfield 44, 3) := by decide +kernel
theorem d_Rt_canHaveTree_24 : decode b_Rt_canHaveTree 24 = .ok (.getfield 85, 3) := by decide +kernel
theorem d_Rt_canHaveTree_27 : decode b_Rt_canHaveTree 27 = .ok (.ifCond .le 7, 3) := by decide +kernel
theorem d_Rt_canHaveTree_30 : decode b_Rt_canHaveTree 30 = .ok (.iconst 1, 1) := by decide +kernel
theorem d_Rt_canHaveTree_31 : decode b_Rt_canHaveTree 31 = .ok (.goto 4, 3) := by decide +kernel
theorem d_Rt_canHaveTree_34 : decode b_Rt_canHaveTree 34 = .ok (.iconst 0, 1) := by decide +kernel
theorem d_Rt_canHaveTree_35 : decode b_Rt_canHaveTree 35 = .ok (.ireturn, 1) := by decide +kernel
abbrev rm_Rt_canHaveTree : Room := { frames := 1, cells := 0, slots := 0, locals := 21 }
def f_Rt_canHaveTree_0 (n_row : Nat) (s_self s_grammar s_row : Nat → Nat → Int32) (v1 v2 : Int32) : Option ((Int32)) :=
  bd1 (m_Gr_hasSort s_grammar v1) fun r_1 =>
  if r_1 = 0 then
    some (0)
  else
    if v2 = 0 then
      if (s_row 0 1) ≤ 0 then
        some (0)
      else
        some (1)
    else
      if v2 = 1 then
        if (s_row 0 1) ≤ 0 then
          some (0)
        else
          some (1)
      else
        some (0)
set_option maxHeartbeats 4000000 in
set_option maxRecDepth 100000 in
theorem t_Rt_canHaveTree_0 {p : Program} {l : Launch} {e : Env} {s : State} {m : MethodId} {args : Array Value} {below : List Frame} {meth : Method} {c : Code} {A : Nat → Prop} {D : va_G} {K : Nat → ClassId} (a_self a_grammar a_chart a_grower a_short a_row a_tape a_least a_next : Nat → Nat) (n_row : Nat) (X : gx p s m args c b_Rt_canHaveTree 3 R_Rt w_Rt_canHaveTree D classes (tyK K) A) (hr : meth.sig.returnType = some .boolean) (hlk : meth.locks = false) (r : Int32) (s_self s_grammar s_row : Nat → Nat → Int32) (v1 v2 : Int32) (h : f_Rt_canHaveTree_0 n_row s_self s_grammar s_row v1 v2 = some r) : Gd p l e rm_Rt_canHaveTree s m args below meth c 0 0 (MQ below (sq D classes (tyK K) (some (.int r)) [wd_Rt K a_self (a_grammar 0) (a_chart 0) (a_grower 0) (a_short 0) (a_row 0) (a_tape 0) (a_least 0) (a_next 0) s_self, wd_Gr K a_grammar s_grammar, wd_Sy K a_row n_row s_row] A) args s 0 0 A) D classes A 3 0 [wd_Rt K a_self (a_grammar 0) (a_chart 0) (a_grower 0) (a_short 0) (a_row 0) (a_tape 0) (a_least 0) (a_next 0) s_self, wd_Gr K a_grammar s_grammar, wd_Sy K a_row n_row s_row] [(0, .ref (a_self 0)), (1, .int v1), (2, .int v2)] [] := by
  unfold f_Rt_canHaveTree_0 at h
  refine gd_aload_n X d_Rt_canHaveTree_0 0 rfl ?_
  refine gd_get X (ci := 6) (C := R_Rt) (T := F_Rt) (N := 9) (v := .ref (a_grammar 0)) 0 0 rfl rfl rfl (in_Rt _) 0 (by decide) (List.mem_cons_of_mem _ fl_Rt_12) rfl rfl d_Rt_canHaveTree_1 ?_
  refine gd_iload_n X d_Rt_canHaveTree_4 1 rfl ?_
  obtain ⟨r_1, hc_2, h⟩ := bd1_e h
  refine gd_pI X (gd_V X (As := [.int v1]) (rest := []) (c_Gr_hasSort l D K a_grammar s_grammar v1 r_1 hc_2) 1 (gi_V ml_Rt_91 u_Gr_hasSort) rfl ⟨rfl, rfl⟩ (by decide +kernel) ⟨by decide, by decide⟩ (ci := 1) rfl rfl rfl rfl rfl rfl (Nat.le_of_ble_eq_true rfl) ⟨Nat.zero_le _, Nat.zero_le _⟩ d_Rt_canHaveTree_5) [1] rfl rfl ?_
  refine gd_if_eq X (tgt := 34) d_Rt_canHaveTree_8 (by decide) (fun c_3 => ?_) (fun c_3 => ?_)
  · replace h := it_p c_3 h
    refine gd_iconst X (v := 0) d_Rt_canHaveTree_34 (by decide) ?_
    cases h
    exact gd_zret X hr hlk (by decide) d_Rt_canHaveTree_35
  · replace h := it_n c_3 h
    refine gd_iload_n X d_Rt_canHaveTree_11 2 rfl ?_
    refine gd_if_eq X (tgt := 20) d_Rt_canHaveTree_12 (by decide) (fun c_4 => ?_) (fun c_4 => ?_)
    · replace h := it_p c_4 h
      refine gd_aload_n X d_Rt_canHaveTree_20 0 rfl ?_
      refine gd_get X (ci := 6) (C := R_Rt) (T := F_Rt) (N := 9) (v := .ref (a_row 0)) 0 0 rfl rfl rfl (in_Rt _) 4 (by decide) (List.mem_cons_of_mem _ fl_Rt_44) rfl rfl d_Rt_canHaveTree_21 ?_
      refine gd_get X (ci := 0) (C := R_Sy) (T := F_Sy) (N := 2) (v := .int (s_row 0 1)) 2 0 rfl rfl rfl (in_Sy _) 1 (by decide) (List.mem_cons_of_mem _ fl_Rt_85) rfl rfl d_Rt_canHaveTree_24 ?_
      refine gd_if_le X (tgt := 34) d_Rt_canHaveTree_27 (by decide) (fun c_5 => ?_) (fun c_5 => ?_)
      · replace h := it_p c_5 h
        refine gd_iconst X (v := 0) d_Rt_canHaveTree_34 (by decide) ?_
        cases h
        exact gd_zret X hr hlk (by decide) d_Rt_canHaveTree_35
      · replace h := it_n c_5 h
        refine gd_iconst X (v := 1) d_Rt_canHaveTree_30 (by decide) ?_
        refine gd_goto X (tgt := 35) d_Rt_canHaveTree_31 (by decide) ?_
        cases h
        exact gd_zret X hr hlk (by decide) d_Rt_canHaveTree_35
    · replace h := it_n c_4 h
      refine gd_iload_n X d_Rt_canHaveTree_15 2 rfl ?_
      refine gd_iconst X (v := 1) d_Rt_canHaveTree_16 (by decide) ?_
      refine gd_icmp_ne X (tgt := 34) d_Rt_canHaveTree_17 (by decide) (fun c_6 => ?_) (fun c_6 => ?_)
      · replace h := it_n c_6 h
        refine gd_iconst X (v := 0) d_Rt_canHaveTree_34 (by decide) ?_
        cases h
        exact gd_zret X hr hlk (by decide) d_Rt_canHaveTree_35
      · replace h := it_p c_6 h
        refine gd_aload_n X d_Rt_canHaveTree_20 0 rfl ?_
        refine gd_get X (ci := 6) (C := R_Rt) (T := F_Rt) (N := 9) (v := .ref (a_row 0)) 0 0 rfl rfl rfl (in_Rt _) 4 (by decide) (List.mem_cons_of_mem _ fl_Rt_44) rfl rfl d_Rt_canHaveTree_21 ?_
        refine gd_get X (ci := 0) (C := R_Sy) (T := F_Sy) (N := 2) (v := .int (s_row 0 1)) 2 0 rfl rfl rfl (in_Sy _) 1 (by decide) (List.mem_cons_of_mem _ fl_Rt_85) rfl rfl d_Rt_canHaveTree_24 ?_
        refine gd_if_le X (tgt := 34) d_Rt_canHaveTree_27 (by decide) (fun c_7 => ?_) (fun c_7 => ?_)
        · replace h := it_p c_7 h
          refine gd_iconst X (v := 0) d_Rt_canHaveTree_34 (by decide) ?_
          cases h
          exact gd_zret X hr hlk (by decide) d_Rt_canHaveTree_35
        · replace h := it_n c_7 h
          refine gd_iconst X (v := 1) d_Rt_canHaveTree_30 (by decide) ?_
          refine gd_goto X (tgt := 35) d_Rt_canHaveTree_31 (by decide) ?_
          cases h
          exact gd_zret X hr hlk (by decide) d_Rt_canHaveTree_35
def m_Rt_canHaveTree (n_row : Nat) (s_self s_grammar s_row : Nat → Nat → Int32) (v1 v2 : Int32) : Option ((Int32)) := f_Rt_canHaveTree_0 n_row s_self s_grammar s_row v1 v2
set_option maxHeartbeats 4000000 in
set_option maxRecDepth 100000 in
theorem c_Rt_canHaveTree (l : Launch) (D : va_G) (K : Nat → ClassId) (a_self a_grammar a_chart a_grower a_short a_row a_tape a_least a_next : Nat → Nat) (n_row : Nat) (s_self s_grammar s_row : Nat → Nat → Int32) (v1 v2 : Int32) (r : Int32) (h : m_Rt_canHaveTree n_row s_self s_grammar s_row v1 v2 = some r) : SMet l y_Rt_canHaveTree w_Rt_canHaveTree rm_Rt_canHaveTree D classes (tyK K) [.ref (a_self 0), .int v1, .int v2] (some (.int r)) [wd_Rt K a_self (a_grammar 0) (a_chart 0) (a_grower 0) (a_short 0) (a_row 0) (a_tape 0) (a_least 0) (a_next 0) s_self, wd_Gr K a_grammar s_grammar, wd_Sy K a_row n_row s_row] [wd_Rt K a_self (a_grammar 0) (a_chart 0) (a_grower 0) (a_short 0) (a_row 0) (a_tape 0) (a_least 0) (a_next 0) s_self, wd_Gr K a_grammar s_grammar, wd_Sy K a_row n_row s_row] := by
  refine sm_of R_Rt (by decide) rfl rfl (Nat.le_of_ble_eq_true rfl) ?_
  intro p e s m below meth c A X hr hlk
  refine gd_loc (lv' := [(0, .ref (a_self 0)), (1, .int v1), (2, .int v2)]) [0, 1, 2] rfl ?_
  exact t_Rt_canHaveTree_0 a_self a_grammar a_chart a_grower a_short a_row a_tape a_least a_next n_row X hr hlk r s_self s_grammar s_row v1 v2 h
abbrev b_Rt_size : ByteArray := prog_1_method_10_code
def y_Rt_size : MethodName := ⟨R_Rt, "size", "(II)I"⟩
def w_Rt_size : List Cond := .code y_Rt_size b_Rt_size 3 (some .int) :: TB
theorem k_Rt_size : Cond.code y_Rt_size b_Rt_size 3 (some .int) ∈ TB := tb_of 555 (by decide +kernel) (by decide +kernel)
theorem d_Rt_size_0 : decode b_Rt_size 0 = .ok (.aload_n 0, 1) := by decide +kernel
theorem d_Rt_size_1 : decode b_Rt_size 1 = .ok (.iload_n 1, 1) := by decide +kernel
theorem d_Rt_size_2 : decode b_Rt_size 2 = .ok (.iload_n 2, 1) := by decide +kernel
theorem d_Rt_size_3 : decode b_Rt_size 3 = .ok (.invokevirtual 106, 3) := by decide +kernel
theorem d_Rt_size_6 : decode b_Rt_size 6 = .ok (.ifCond .ne 5, 3) := by decide +kernel
theorem d_Rt_size_9 : decode b_Rt_size 9 = .ok (.iconst 0, 1) := by decide +kernel
theorem d_Rt_size_10 : decode b_Rt_size 10 = .ok (.ireturn, 1) := by decide +kernel
theorem d_Rt_size_11 : decode b_Rt_size 11 = .ok (.aload_n 0, 1) := by decide +kernel
theorem d_Rt_size_12 : decode b_Rt_size 12 = .ok (.getfield 21, 3) := by decide +kernel
theorem d_Rt_size_15 : decode b_Rt_size 15 = .ok (.aload_n 0, 1) := by decide +kernel
theorem d_Rt_size_16 : decode b_Rt_size 16 = .ok (.getfield 44, 3) := by decide +kernel
theorem d_Rt_size_19 : decode b_Rt_size 19 = .ok (.invokevirtual 94, 3) := by decide +kernel
theorem d_Rt_size_22 : decode b_Rt_size 22 = .ok (.aload_n 0, 1) := by decide +kernel
theorem d_Rt_size_23 : decode b_Rt_size 23 = .ok (.getfield 21, 3) := by decide +kernel
theorem d_Rt_size_26 : decode b_Rt_size 26 = .ok (.iload_n 1, 1) := by decide +kernel
theorem d_Rt_size_27 : decode b_Rt_size 27 = .ok (.iload_n 2, 1) := by decide +kernel
theorem d_Rt_size_28 : decode b_Rt_size 28 = .ok (.aload_n 0, 1) := by decide +kernel
theorem d_Rt_size_29 : decode b_Rt_size 29 = .ok (.getfield 44, 3) := by decide +kernel
theorem d_Rt_size_32 : decode b_Rt_size 32 = .ok (.getfield 85, 3) := by decide +kernel
theorem d_Rt_size_35 : decode b_Rt_size 35 = .ok (.invokevirtual 110, 3) := by decide +kernel
theorem d_Rt_size_38 : decode b_Rt_size 38 = .ok (.ireturn, 1) := by decide +kernel
theorem ml_Rt_106 : Cond.methodLink R_Rt 106 ⟨"RuleTrees", "canHaveTree", "(II)Z"⟩ ∈ TB := tb_of 556 (by decide +kernel) (by decide +kernel)
theorem u_Rt_canHaveTree : (Cond.instanceMethod y_Rt_canHaveTree ∈ TB ∧ Cond.selects R_Rt y_Rt_canHaveTree y_Rt_canHaveTree ∈ TB) ∧ Cond.initialized R_Rt ∈ TB ∧ Cond.code y_Rt_canHaveTree b_Rt_canHaveTree 3 (some .boolean) ∈ TB := ⟨⟨(tb_of 558 (by decide +kernel) (by decide +kernel)), (tb_of 22 (by decide +kernel) (by decide +kernel))⟩, (tb_of 62 (by decide +kernel) (by decide +kernel)), k_Rt_canHaveTree⟩
theorem ml_Rt_110 : Cond.methodLink R_Rt 110 ⟨"RuleTrees$Chart", "sizeOf", "(III)I"⟩ ∈ TB := tb_of 560 (by decide +kernel) (by decide +kernel)
theorem u_Ch_sizeOf : (Cond.instanceMethod y_Ch_sizeOf ∈ TB ∧ Cond.selects R_Ch y_Ch_sizeOf y_Ch_sizeOf ∈ TB) ∧ Cond.initialized R_Ch ∈ TB ∧ Cond.code y_Ch_sizeOf b_Ch_sizeOf 4 (some .int) ∈ TB := ⟨⟨(tb_of 561 (by decide +kernel) (by decide +kernel)), (tb_of 562 (by decide +kernel) (by decide +kernel))⟩, (tb_of 64 (by decide +kernel) (by decide +kernel)), k_Ch_sizeOf⟩
abbrev rm_Rt_size : Room := { frames := 16, cells := 0, slots := 0, locals := 459 }
def f_Rt_size_0 (N : Nat) (n_row : Nat) (s_self s_grammar s_chart s_table s_row : Nat → Nat → Int32) (v1 v2 : Int32) : Option ((Int32) × (Nat → Nat → Int32) × (Nat → Nat → Int32)) :=
  bd1 (m_Rt_canHaveTree n_row s_self s_grammar s_row v1 v2) fun r_1 =>
  if r_1 = 0 then
    some ((0), s_chart, s_table)
  else
    bd2 (m_Ch_catchUp N n_row s_chart s_grammar s_table s_row) fun s_chart_4 s_table_5 =>
    bd1 (m_Ch_sizeOf s_chart_4 s_table_5 v1 v2 (s_row 0 1)) fun r_7 =>
    some ((r_7), s_chart_4, s_table_5)
set_option maxHeartbeats 4000000 in
set_option maxRecDepth 100000 in
theorem t_Rt_size_0 {p : Program} {l : Launch} {e : Env} {s : State} {m : MethodId} {args : Array Value} {below : List Frame} {meth : Method} {c : Code} {A : Nat → Prop} {D : va_G} {K : Nat → ClassId} (a_self a_grammar a_chart a_table a_grower a_short a_row a_tape a_least a_next : Nat → Nat) (n_row : Nat) (X : gx p s m args c b_Rt_size 3 R_Rt w_Rt_size D classes (tyK K) A) (hr : meth.sig.returnType = some .int) (hlk : meth.locks = false) (N : Nat) (r : Int32) (f_chart f_table : Nat → Nat → Int32) (s_self s_grammar s_chart s_table s_row : Nat → Nat → Int32) (v1 v2 : Int32) (h : f_Rt_size_0 N n_row s_self s_grammar s_chart s_table s_row v1 v2 = some (r, f_chart, f_table)) : Gd p l e rm_Rt_size s m args below meth c 0 0 (MQ below (sq D classes (tyK K) (some (.int r)) [wd_Rt K a_self (a_grammar 0) (a_chart 0) (a_grower 0) (a_short 0) (a_row 0) (a_tape 0) (a_least 0) (a_next 0) s_self, wd_Gr K a_grammar s_grammar, wd_Ch K a_chart (a_grammar 0) (a_table 0) f_chart, wd_Tt K a_table f_table, wd_Sy K a_row n_row s_row] A) args s 0 0 A) D classes A 3 0 [wd_Rt K a_self (a_grammar 0) (a_chart 0) (a_grower 0) (a_short 0) (a_row 0) (a_tape 0) (a_least 0) (a_next 0) s_self, wd_Gr K a_grammar s_grammar, wd_Ch K a_chart (a_grammar 0) (a_table 0) s_chart, wd_Tt K a_table s_table, wd_Sy K a_row n_row s_row] [(0, .ref (a_self 0)), (1, .int v1), (2, .int v2)] [] := by
  unfold f_Rt_size_0 at h
  refine gd_aload_n X d_Rt_size_0 0 rfl ?_
  refine gd_iload_n X d_Rt_size_1 1 rfl ?_
  refine gd_iload_n X d_Rt_size_2 2 rfl ?_
  obtain ⟨r_1, hc_2, h⟩ := bd1_e h
  refine gd_pI X (gd_V X (As := [.int v1, .int v2]) (rest := []) (c_Rt_canHaveTree l D K a_self a_grammar a_chart a_grower a_short a_row a_tape a_least a_next n_row s_self s_grammar s_row v1 v2 r_1 hc_2) 2 (gi_V ml_Rt_106 u_Rt_canHaveTree) rfl ⟨rfl, rfl⟩ (by decide +kernel) ⟨by decide, by decide⟩ (ci := 6) rfl rfl rfl rfl rfl rfl (Nat.le_of_ble_eq_true rfl) ⟨Nat.zero_le _, Nat.zero_le _⟩ d_Rt_size_3) [0, 1, 4] rfl rfl ?_
  refine gd_if_ne X (tgt := 11) d_Rt_size_6 (by decide) (fun c_3 => ?_) (fun c_3 => ?_)
  · replace h := it_n c_3 h
    refine gd_aload_n X d_Rt_size_11 0 rfl ?_
    refine gd_get X (ci := 6) (C := R_Rt) (T := F_Rt) (N := 9) (v := .ref (a_chart 0)) 0 0 rfl rfl rfl (in_Rt _) 1 (by decide) (List.mem_cons_of_mem _ fl_Rt_21) rfl rfl d_Rt_size_12 ?_
    refine gd_aload_n X d_Rt_size_15 0 rfl ?_
    refine gd_get X (ci := 6) (C := R_Rt) (T := F_Rt) (N := 9) (v := .ref (a_row 0)) 0 0 rfl rfl rfl (in_Rt _) 4 (by decide) (List.mem_cons_of_mem _ fl_Rt_44) rfl rfl d_Rt_size_16 ?_
    obtain ⟨s_chart_4, s_table_5, hc_6, h⟩ := bd2_e h
    refine gd_cv X (gd_V X (As := [.ref (a_row 0)]) (rest := []) (c_Ch_catchUp l D K a_chart a_grammar a_table a_row n_row N s_chart s_grammar s_table s_row s_chart_4 s_table_5 hc_6) 1 (gi_V ml_Rt_94 u_Ch_catchUp) rfl ⟨rfl, rfl⟩ (by decide +kernel) ⟨by decide, by decide⟩ (ci := 3) rfl rfl rfl rfl rfl rfl (Nat.le_of_ble_eq_true rfl) ⟨Nat.zero_le _, Nat.zero_le _⟩ d_Rt_size_19) (w2 := [wd_Rt K a_self (a_grammar 0) (a_chart 0) (a_grower 0) (a_short 0) (a_row 0) (a_tape 0) (a_least 0) (a_next 0) s_self, wd_Gr K a_grammar s_grammar, wd_Ch K a_chart (a_grammar 0) (a_table 0) s_chart_4, wd_Tt K a_table s_table_5, wd_Sy K a_row n_row s_row]) [2, 1, 3, 4] [0] rfl rfl rfl rfl ⟨rfl, rfl⟩ rfl ?_
    refine gd_aload_n X d_Rt_size_22 0 rfl ?_
    refine gd_get X (ci := 6) (C := R_Rt) (T := F_Rt) (N := 9) (v := .ref (a_chart 0)) 0 0 rfl rfl rfl (in_Rt _) 1 (by decide) (List.mem_cons_of_mem _ fl_Rt_21) rfl rfl d_Rt_size_23 ?_
    refine gd_iload_n X d_Rt_size_26 1 rfl ?_
    refine gd_iload_n X d_Rt_size_27 2 rfl ?_
    refine gd_aload_n X d_Rt_size_28 0 rfl ?_
    refine gd_get X (ci := 6) (C := R_Rt) (T := F_Rt) (N := 9) (v := .ref (a_row 0)) 0 0 rfl rfl rfl (in_Rt _) 4 (by decide) (List.mem_cons_of_mem _ fl_Rt_44) rfl rfl d_Rt_size_29 ?_
    refine gd_get X (ci := 0) (C := R_Sy) (T := F_Sy) (N := 2) (v := .int (s_row 0 1)) 4 0 rfl rfl rfl (in_Sy _) 1 (by decide) (List.mem_cons_of_mem _ fl_Rt_85) rfl rfl d_Rt_size_32 ?_
    obtain ⟨r_7, hc_8, h⟩ := bd1_e h
    refine gd_pI X (gd_V X (As := [.int v1, .int v2, .int (s_row 0 1)]) (rest := []) (c_Ch_sizeOf l D K a_chart a_grammar a_table s_chart_4 s_table_5 v1 v2 (s_row 0 1) r_7 hc_8) 3 (gi_V ml_Rt_110 u_Ch_sizeOf) rfl ⟨rfl, rfl⟩ (by decide +kernel) ⟨by decide, by decide⟩ (ci := 3) rfl rfl rfl rfl rfl rfl (Nat.le_of_ble_eq_true rfl) ⟨Nat.zero_le _, Nat.zero_le _⟩ d_Rt_size_35) [2, 3] rfl rfl ?_
    cases h
    exact gd_iret X hr hlk d_Rt_size_38
  · replace h := it_p c_3 h
    refine gd_iconst X (v := 0) d_Rt_size_9 (by decide) ?_
    cases h
    exact gd_iret X hr hlk d_Rt_size_10
def m_Rt_size (N : Nat) (n_row : Nat) (s_self s_grammar s_chart s_table s_row : Nat → Nat → Int32) (v1 v2 : Int32) : Option ((Int32) × (Nat → Nat → Int32) × (Nat → Nat → Int32)) := f_Rt_size_0 N n_row s_self s_grammar s_chart s_table s_row v1 v2
set_option maxHeartbeats 4000000 in
set_option maxRecDepth 100000 in
theorem c_Rt_size (l : Launch) (D : va_G) (K : Nat → ClassId) (a_self a_grammar a_chart a_table a_grower a_short a_row a_tape a_least a_next : Nat → Nat) (n_row : Nat) (N : Nat) (s_self s_grammar s_chart s_table s_row : Nat → Nat → Int32) (v1 v2 : Int32) (r : Int32) (f_chart f_table : Nat → Nat → Int32) (h : m_Rt_size N n_row s_self s_grammar s_chart s_table s_row v1 v2 = some (r, f_chart, f_table)) : SMet l y_Rt_size w_Rt_size rm_Rt_size D classes (tyK K) [.ref (a_self 0), .int v1, .int v2] (some (.int r)) [wd_Rt K a_self (a_grammar 0) (a_chart 0) (a_grower 0) (a_short 0) (a_row 0) (a_tape 0) (a_least 0) (a_next 0) s_self, wd_Gr K a_grammar s_grammar, wd_Ch K a_chart (a_grammar 0) (a_table 0) s_chart, wd_Tt K a_table s_table, wd_Sy K a_row n_row s_row] [wd_Rt K a_self (a_grammar 0) (a_chart 0) (a_grower 0) (a_short 0) (a_row 0) (a_tape 0) (a_least 0) (a_next 0) s_self, wd_Gr K a_grammar s_grammar, wd_Ch K a_chart (a_grammar 0) (a_table 0) f_chart, wd_Tt K a_table f_table, wd_Sy K a_row n_row s_row] := by
  refine sm_of R_Rt (by decide) rfl rfl (Nat.le_of_ble_eq_true rfl) ?_
  intro p e s m below meth c A X hr hlk
  refine gd_loc (lv' := [(0, .ref (a_self 0)), (1, .int v1), (2, .int v2)]) [0, 1, 2] rfl ?_
  exact t_Rt_size_0 a_self a_grammar a_chart a_table a_grower a_short a_row a_tape a_least a_next n_row X hr hlk N r f_chart f_table s_self s_grammar s_chart s_table s_row v1 v2 h
