abbrev b_Rt_shortest : ByteArray := prog_1_method_17_code
def y_Rt_shortest : MethodName := ⟨R_Rt, "shortest", "(I)I"⟩
def w_Rt_shortest : List Cond := .code y_Rt_shortest b_Rt_shortest 2 (some .int) :: TB
theorem k_Rt_shortest : Cond.code y_Rt_shortest b_Rt_shortest 2 (some .int) ∈ TB := tb_of 649 (by decide +kernel) (by decide +kernel)
theorem d_Rt_shortest_0 : decode b_Rt_shortest 0 = .ok (.aload_n 0, 1) := by decide +kernel
theorem d_Rt_shortest_1 : decode b_Rt_shortest 1 = .ok (.getfield 12, 3) := by decide +kernel
theorem d_Rt_shortest_4 : decode b_Rt_shortest 4 = .ok (.iload_n 1, 1) := by decide +kernel
theorem d_Rt_shortest_5 : decode b_Rt_shortest 5 = .ok (.invokevirtual 91, 3) := by decide +kernel
theorem d_Rt_shortest_8 : decode b_Rt_shortest 8 = .ok (.ifCond .eq 14, 3) := by decide +kernel
theorem d_Rt_shortest_11 : decode b_Rt_shortest 11 = .ok (.aload_n 0, 1) := by decide +kernel
theorem d_Rt_shortest_12 : decode b_Rt_shortest 12 = .ok (.getfield 35, 3) := by decide +kernel
theorem d_Rt_shortest_15 : decode b_Rt_shortest 15 = .ok (.iload_n 1, 1) := by decide +kernel
theorem d_Rt_shortest_16 : decode b_Rt_shortest 16 = .ok (.invokevirtual 136, 3) := by decide +kernel
theorem d_Rt_shortest_19 : decode b_Rt_shortest 19 = .ok (.goto 4, 3) := by decide +kernel
theorem d_Rt_shortest_22 : decode b_Rt_shortest 22 = .ok (.iconst (-1), 1) := by decide +kernel
theorem d_Rt_shortest_23 : decode b_Rt_shortest 23 = .ok (.ireturn, 1) := by decide +kernel
theorem fl_Rt_35 : Cond.fieldLink R_Rt 35 "RuleTrees" "shortestRows" "LRuleTrees$ShortestRows;" ∈ TB := tb_of 264 (by decide +kernel) (by decide +kernel)
theorem ml_Rt_136 : Cond.methodLink R_Rt 136 ⟨"RuleTrees$ShortestRows", "lengthFor", "(I)I"⟩ ∈ TB := tb_of 650 (by decide +kernel) (by decide +kernel)
theorem u_Sr_lengthFor : (Cond.instanceMethod y_Sr_lengthFor ∈ TB ∧ Cond.selects R_Sr y_Sr_lengthFor y_Sr_lengthFor ∈ TB) ∧ Cond.initialized R_Sr ∈ TB ∧ Cond.code y_Sr_lengthFor b_Sr_lengthFor 4 (some .int) ∈ TB := ⟨⟨(tb_of 651 (by decide +kernel) (by decide +kernel)), (tb_of 652 (by decide +kernel) (by decide +kernel))⟩, (tb_of 69 (by decide +kernel) (by decide +kernel)), k_Sr_lengthFor⟩
abbrev rm_Rt_shortest : Room := { frames := 4, cells := 0, slots := 0, locals := 91 }
def f_Rt_shortest_0 (N : Nat) (s_self s_grammar s_short : Nat → Nat → Int32) (v1 : Int32) : Option ((Int32) × (Nat → Nat → Int32)) :=
  bd1 (m_Gr_hasSort s_grammar v1) fun r_1 =>
  if r_1 = 0 then
    some (((-1)), s_short)
  else
    bd2 (m_Sr_lengthFor N s_short s_grammar v1) fun r_4 s_short_5 =>
    some ((r_4), s_short_5)
set_option maxHeartbeats 4000000 in
set_option maxRecDepth 100000 in
theorem t_Rt_shortest_0 {p : Program} {l : Launch} {e : Env} {s : State} {m : MethodId} {args : Array Value} {below : List Frame} {meth : Method} {c : Code} {A : Nat → Prop} {D : va_G} {K : Nat → ClassId} (a_self a_grammar a_chart a_grower a_short a_row a_tape a_least a_next : Nat → Nat) (X : gx p s m args c b_Rt_shortest 2 R_Rt w_Rt_shortest D classes (tyK K) A) (hr : meth.sig.returnType = some .int) (hlk : meth.locks = false) (N : Nat) (r : Int32) (f_short : Nat → Nat → Int32) (s_self s_grammar s_short : Nat → Nat → Int32) (v1 : Int32) (h : f_Rt_shortest_0 N s_self s_grammar s_short v1 = some (r, f_short)) : Gd p l e rm_Rt_shortest s m args below meth c 0 0 (MQ below (sq D classes (tyK K) (some (.int r)) [wd_Rt K a_self (a_grammar 0) (a_chart 0) (a_grower 0) (a_short 0) (a_row 0) (a_tape 0) (a_least 0) (a_next 0) s_self, wd_Gr K a_grammar s_grammar, wd_Sr K a_short (a_grammar 0) f_short] A) args s 0 0 A) D classes A 2 0 [wd_Rt K a_self (a_grammar 0) (a_chart 0) (a_grower 0) (a_short 0) (a_row 0) (a_tape 0) (a_least 0) (a_next 0) s_self, wd_Gr K a_grammar s_grammar, wd_Sr K a_short (a_grammar 0) s_short] [(0, .ref (a_self 0)), (1, .int v1)] [] := by
  unfold f_Rt_shortest_0 at h
  refine gd_aload_n X d_Rt_shortest_0 0 rfl ?_
  refine gd_get X (ci := 6) (C := R_Rt) (T := F_Rt) (N := 9) (v := .ref (a_grammar 0)) 0 0 rfl rfl rfl (in_Rt _) 0 (by decide) (List.mem_cons_of_mem _ fl_Rt_12) rfl rfl d_Rt_shortest_1 ?_
  refine gd_iload_n X d_Rt_shortest_4 1 rfl ?_
  obtain ⟨r_1, hc_2, h⟩ := bd1_e h
  refine gd_pI X (gd_V X (As := [.int v1]) (rest := []) (c_Gr_hasSort l D K a_grammar s_grammar v1 r_1 hc_2) 1 (gi_V ml_Rt_91 u_Gr_hasSort) rfl ⟨rfl, rfl⟩ (by decide +kernel) ⟨by decide, by decide⟩ (ci := 1) rfl rfl rfl rfl rfl rfl (Nat.le_of_ble_eq_true rfl) ⟨Nat.zero_le _, Nat.zero_le _⟩ d_Rt_shortest_5) [1] rfl rfl ?_
  refine gd_if_eq X (tgt := 22) d_Rt_shortest_8 (by decide) (fun c_3 => ?_) (fun c_3 => ?_)
  · replace h := it_p c_3 h
    refine gd_iconst X (v := (-1)) d_Rt_shortest_22 (by decide) ?_
    cases h
    exact gd_iret X hr hlk d_Rt_shortest_23
  · replace h := it_n c_3 h
    refine gd_aload_n X d_Rt_shortest_11 0 rfl ?_
    refine gd_get X (ci := 6) (C := R_Rt) (T := F_Rt) (N := 9) (v := .ref (a_short 0)) 0 0 rfl rfl rfl (in_Rt _) 3 (by decide) (List.mem_cons_of_mem _ fl_Rt_35) rfl rfl d_Rt_shortest_12 ?_
    refine gd_iload_n X d_Rt_shortest_15 1 rfl ?_
    obtain ⟨r_4, s_short_5, hc_6, h⟩ := bd2_e h
    refine gd_cI X (gd_V X (As := [.int v1]) (rest := []) (c_Sr_lengthFor l D K a_short a_grammar N s_short s_grammar v1 r_4 s_short_5 hc_6) 1 (gi_V ml_Rt_136 u_Sr_lengthFor) rfl ⟨rfl, rfl⟩ (by decide +kernel) ⟨by decide, by decide⟩ (ci := 5) rfl rfl rfl rfl rfl rfl (Nat.le_of_ble_eq_true rfl) ⟨Nat.zero_le _, Nat.zero_le _⟩ d_Rt_shortest_16) (w2 := [wd_Rt K a_self (a_grammar 0) (a_chart 0) (a_grower 0) (a_short 0) (a_row 0) (a_tape 0) (a_least 0) (a_next 0) s_self, wd_Gr K a_grammar s_grammar, wd_Sr K a_short (a_grammar 0) s_short_5]) [2, 1] [0] rfl rfl rfl rfl ⟨rfl, rfl⟩ rfl ?_
    refine gd_goto X (tgt := 23) d_Rt_shortest_19 (by decide) ?_
    cases h
    exact gd_iret X hr hlk d_Rt_shortest_23
def m_Rt_shortest (N : Nat) (s_self s_grammar s_short : Nat → Nat → Int32) (v1 : Int32) : Option ((Int32) × (Nat → Nat → Int32)) := f_Rt_shortest_0 N s_self s_grammar s_short v1
set_option maxHeartbeats 4000000 in
set_option maxRecDepth 100000 in
theorem c_Rt_shortest (l : Launch) (D : va_G) (K : Nat → ClassId) (a_self a_grammar a_chart a_grower a_short a_row a_tape a_least a_next : Nat → Nat) (N : Nat) (s_self s_grammar s_short : Nat → Nat → Int32) (v1 : Int32) (r : Int32) (f_short : Nat → Nat → Int32) (h : m_Rt_shortest N s_self s_grammar s_short v1 = some (r, f_short)) : SMet l y_Rt_shortest w_Rt_shortest rm_Rt_shortest D classes (tyK K) [.ref (a_self 0), .int v1] (some (.int r)) [wd_Rt K a_self (a_grammar 0) (a_chart 0) (a_grower 0) (a_short 0) (a_row 0) (a_tape 0) (a_least 0) (a_next 0) s_self, wd_Gr K a_grammar s_grammar, wd_Sr K a_short (a_grammar 0) s_short] [wd_Rt K a_self (a_grammar 0) (a_chart 0) (a_grower 0) (a_short 0) (a_row 0) (a_tape 0) (a_least 0) (a_next 0) s_self, wd_Gr K a_grammar s_grammar, wd_Sr K a_short (a_grammar 0) f_short] := by
  refine sm_of R_Rt (by decide) rfl rfl (Nat.le_of_ble_eq_true rfl) ?_
  intro p e s m below meth c A X hr hlk
  refine gd_loc (lv' := [(0, .ref (a_self 0)), (1, .int v1)]) [0, 1] rfl ?_
  exact t_Rt_shortest_0 a_self a_grammar a_chart a_grower a_short a_row a_tape a_least a_next X hr hlk N r f_short s_self s_grammar s_short v1 h
abbrev b_Rt_about : ByteArray := prog_1_method_18_code
def y_Rt_about : MethodName := ⟨R_Rt, "about", "(II)I"⟩
def w_Rt_about : List Cond := .code y_Rt_about b_Rt_about 3 (some .int) :: TB
theorem k_Rt_about : Cond.code y_Rt_about b_Rt_about 3 (some .int) ∈ TB := tb_of 673 (by decide +kernel) (by decide +kernel)
theorem d_Rt_about_0 : decode b_Rt_about 0 = .ok (.aload_n 0, 1) := by decide +kernel
theorem d_Rt_about_1 : decode b_Rt_about 1 = .ok (.getfield 12, 3) := by decide +kernel
theorem d_Rt_about_4 : decode b_Rt_about 4 = .ok (.iload_n 1, 1) := by decide +kernel
theorem d_Rt_about_5 : decode b_Rt_about 5 = .ok (.invokevirtual 139, 3) := by decide +kernel
theorem d_Rt_about_8 : decode b_Rt_about 8 = .ok (.ifCond .ne 5, 3) := by decide +kernel
theorem d_Rt_about_11 : decode b_Rt_about 11 = .ok (.iconst (-1), 1) := by decide +kernel
theorem d_Rt_about_12 : decode b_Rt_about 12 = .ok (.ireturn, 1) := by decide +kernel
theorem d_Rt_about_13 : decode b_Rt_about 13 = .ok (.iload_n 2, 1) := by decide +kernel
theorem d_Rt_about_14 : decode b_Rt_about 14 = .ok (.tableswitch 53 0 2 #[26, 35, 44], 26) := by decide +kernel
theorem d_Rt_about_40 : decode b_Rt_about 40 = .ok (.aload_n 0, 1) := by decide +kernel
theorem d_Rt_about_41 : decode b_Rt_about 41 = .ok (.getfield 12, 3) := by decide +kernel
theorem d_Rt_about_44 : decode b_Rt_about 44 = .ok (.iload_n 1, 1) := by decide +kernel
theorem d_Rt_about_45 : decode b_Rt_about 45 = .ok (.invokevirtual 142, 3) := by decide +kernel
theorem d_Rt_about_48 : decode b_Rt_about 48 = .ok (.ireturn, 1) := by decide +kernel
theorem d_Rt_about_49 : decode b_Rt_about 49 = .ok (.aload_n 0, 1) := by decide +kernel
theorem d_Rt_about_50 : decode b_Rt_about 50 = .ok (.getfield 12, 3) := by decide +kernel
theorem d_Rt_about_53 : decode b_Rt_about 53 = .ok (.iload_n 1, 1) := by decide +kernel
theorem d_Rt_about_54 : decode b_Rt_about 54 = .ok (.invokevirtual 145, 3) := by decide +kernel
theorem d_Rt_about_57 : decode b_Rt_about 57 = .ok (.ireturn, 1) := by decide +kernel
theorem d_Rt_about_58 : decode b_Rt_about 58 = .ok (.aload_n 0, 1) := by decide +kernel
theorem d_Rt_about_59 : decode b_Rt_about 59 = .ok (.getfield 12, 3) := by decide +kernel
theorem d_Rt_about_62 : decode b_Rt_about 62 = .ok (.iload_n 1, 1) := by decide +kernel
theorem d_Rt_about_63 : decode b_Rt_about 63 = .ok (.invokevirtual 148, 3) := by decide +kernel
theorem d_Rt_about_66 : decode b_Rt_about 66 = .ok (.ireturn, 1) := by decide +kernel
theorem d_Rt_about_67 : decode b_Rt_about 67 = .ok (.iconst (-1), 1) := by decide +kernel
theorem d_Rt_about_68 : decode b_Rt_about 68 = .ok (.ireturn, 1) := by decide +kernel
theorem ml_Rt_139 : Cond.methodLink R_Rt 139 ⟨"RuleTrees$Grammar", "hasRule", "(I)Z"⟩ ∈ TB := tb_of 674 (by decide +kernel) (by decide +kernel)
theorem ml_Rt_142 : Cond.methodLink R_Rt 142 ⟨"RuleTrees$Grammar", "sortOfCode", "(I)I"⟩ ∈ TB := tb_of 675 (by decide +kernel) (by decide +kernel)
theorem ml_Rt_145 : Cond.methodLink R_Rt 145 ⟨"RuleTrees$Grammar", "lengthOfRule", "(I)I"⟩ ∈ TB := tb_of 676 (by decide +kernel) (by decide +kernel)
theorem ml_Rt_148 : Cond.methodLink R_Rt 148 ⟨"RuleTrees$Grammar", "slotsOfCode", "(I)I"⟩ ∈ TB := tb_of 677 (by decide +kernel) (by decide +kernel)
abbrev rm_Rt_about : Room := { frames := 2, cells := 0, slots := 0, locals := 42 }
def f_Rt_about_0 (s_self s_grammar : Nat → Nat → Int32) (v1 v2 : Int32) : Option ((Int32)) :=
  bd1 (m_Gr_hasRule s_grammar v1) fun r_1 =>
  if r_1 = 0 then
    some ((-1))
  else
    if v2 = 0 then
      bd1 (m_Gr_sortOfCode s_grammar v1) fun r_5 =>
      some (r_5)
    else
    if v2 = 1 then
      bd1 (m_Gr_lengthOfRule s_grammar v1) fun r_8 =>
      some (r_8)
    else
    if v2 = 2 then
      bd1 (m_Gr_slotsOfCode s_grammar v1) fun r_11 =>
      some (r_11)
    else
    some ((-1))
set_option maxHeartbeats 4000000 in
set_option maxRecDepth 100000 in
theorem t_Rt_about_0 {p : Program} {l : Launch} {e : Env} {s : State} {m : MethodId} {args : Array Value} {below : List Frame} {meth : Method} {c : Code} {A : Nat → Prop} {D : va_G} {K : Nat → ClassId} (a_self a_grammar a_chart a_grower a_short a_row a_tape a_least a_next : Nat → Nat) (X : gx p s m args c b_Rt_about 3 R_Rt w_Rt_about D classes (tyK K) A) (hr : meth.sig.returnType = some .int) (hlk : meth.locks = false) (r : Int32) (s_self s_grammar : Nat → Nat → Int32) (v1 v2 : Int32) (h : f_Rt_about_0 s_self s_grammar v1 v2 = some r) : Gd p l e rm_Rt_about s m args below meth c 0 0 (MQ below (sq D classes (tyK K) (some (.int r)) [wd_Rt K a_self (a_grammar 0) (a_chart 0) (a_grower 0) (a_short 0) (a_row 0) (a_tape 0) (a_least 0) (a_next 0) s_self, wd_Gr K a_grammar s_grammar] A) args s 0 0 A) D classes A 3 0 [wd_Rt K a_self (a_grammar 0) (a_chart 0) (a_grower 0) (a_short 0) (a_row 0) (a_tape 0) (a_least 0) (a_next 0) s_self, wd_Gr K a_grammar s_grammar] [(0, .ref (a_self 0)), (1, .int v1), (2, .int v2)] [] := by
  unfold f_Rt_about_0 at h
  refine gd_aload_n X d_Rt_about_0 0 rfl ?_
  refine gd_get X (ci := 6) (C := R_Rt) (T := F_Rt) (N := 9) (v := .ref (a_grammar 0)) 0 0 rfl rfl rfl (in_Rt _) 0 (by decide) (List.mem_cons_of_mem _ fl_Rt_12) rfl rfl d_Rt_about_1 ?_
  refine gd_iload_n X d_Rt_about_4 1 rfl ?_
  obtain ⟨r_1, hc_2, h⟩ := bd1_e h
  refine gd_pI X (gd_V X (As := [.int v1]) (rest := []) (c_Gr_hasRule l D K a_grammar s_grammar v1 r_1 hc_2) 1 (gi_V ml_Rt_139 u_Gr_hasRule) rfl ⟨rfl, rfl⟩ (by decide +kernel) ⟨by decide, by decide⟩ (ci := 1) rfl rfl rfl rfl rfl rfl (Nat.le_of_ble_eq_true rfl) ⟨Nat.zero_le _, Nat.zero_le _⟩ d_Rt_about_5) [1] rfl rfl ?_
  refine gd_if_ne X (tgt := 13) d_Rt_about_8 (by decide) (fun c_3 => ?_) (fun c_3 => ?_)
  · replace h := it_n c_3 h
    refine gd_iload_n X d_Rt_about_13 2 rfl ?_
    by_cases c_4 : v2 = 0
    · replace h := it_p c_4 h
      refine gd_tabIn X (tgt := 40) (off := 26) d_Rt_about_14 (by rw [c_4]; decide) (by rw [c_4]; decide) (by rw [c_4]; decide +kernel) (by decide) ?_
      refine gd_aload_n X d_Rt_about_40 0 rfl ?_
      refine gd_get X (ci := 6) (C := R_Rt) (T := F_Rt) (N := 9) (v := .ref (a_grammar 0)) 0 0 rfl rfl rfl (in_Rt _) 0 (by decide) (List.mem_cons_of_mem _ fl_Rt_12) rfl rfl d_Rt_about_41 ?_
      refine gd_iload_n X d_Rt_about_44 1 rfl ?_
      obtain ⟨r_5, hc_6, h⟩ := bd1_e h
      refine gd_pI X (gd_V X (As := [.int v1]) (rest := []) (c_Gr_sortOfCode l D K a_grammar s_grammar v1 r_5 hc_6) 1 (gi_V ml_Rt_142 u_Gr_sortOfCode) rfl ⟨rfl, rfl⟩ (by decide +kernel) ⟨by decide, by decide⟩ (ci := 1) rfl rfl rfl rfl rfl rfl (Nat.le_of_ble_eq_true rfl) ⟨Nat.zero_le _, Nat.zero_le _⟩ d_Rt_about_45) [1] rfl rfl ?_
      cases h
      exact gd_iret X hr hlk d_Rt_about_48
    replace h := it_n c_4 h
    by_cases c_7 : v2 = 1
    · replace h := it_p c_7 h
      refine gd_tabIn X (tgt := 49) (off := 35) d_Rt_about_14 (by rw [c_7]; decide) (by rw [c_7]; decide) (by rw [c_7]; decide +kernel) (by decide) ?_
      refine gd_aload_n X d_Rt_about_49 0 rfl ?_
      refine gd_get X (ci := 6) (C := R_Rt) (T := F_Rt) (N := 9) (v := .ref (a_grammar 0)) 0 0 rfl rfl rfl (in_Rt _) 0 (by decide) (List.mem_cons_of_mem _ fl_Rt_12) rfl rfl d_Rt_about_50 ?_
      refine gd_iload_n X d_Rt_about_53 1 rfl ?_
      obtain ⟨r_8, hc_9, h⟩ := bd1_e h
      refine gd_pI X (gd_V X (As := [.int v1]) (rest := []) (c_Gr_lengthOfRule l D K a_grammar s_grammar v1 r_8 hc_9) 1 (gi_V ml_Rt_145 u_Gr_lengthOfRule) rfl ⟨rfl, rfl⟩ (by decide +kernel) ⟨by decide, by decide⟩ (ci := 1) rfl rfl rfl rfl rfl rfl (Nat.le_of_ble_eq_true rfl) ⟨Nat.zero_le _, Nat.zero_le _⟩ d_Rt_about_54) [1] rfl rfl ?_
      cases h
      exact gd_iret X hr hlk d_Rt_about_57
    replace h := it_n c_7 h
    by_cases c_10 : v2 = 2
    · replace h := it_p c_10 h
      refine gd_tabIn X (tgt := 58) (off := 44) d_Rt_about_14 (by rw [c_10]; decide) (by rw [c_10]; decide) (by rw [c_10]; decide +kernel) (by decide) ?_
      refine gd_aload_n X d_Rt_about_58 0 rfl ?_
      refine gd_get X (ci := 6) (C := R_Rt) (T := F_Rt) (N := 9) (v := .ref (a_grammar 0)) 0 0 rfl rfl rfl (in_Rt _) 0 (by decide) (List.mem_cons_of_mem _ fl_Rt_12) rfl rfl d_Rt_about_59 ?_
      refine gd_iload_n X d_Rt_about_62 1 rfl ?_
      obtain ⟨r_11, hc_12, h⟩ := bd1_e h
      refine gd_pI X (gd_V X (As := [.int v1]) (rest := []) (c_Gr_slotsOfCode l D K a_grammar s_grammar v1 r_11 hc_12) 1 (gi_V ml_Rt_148 u_Gr_slotsOfCode) rfl ⟨rfl, rfl⟩ (by decide +kernel) ⟨by decide, by decide⟩ (ci := 1) rfl rfl rfl rfl rfl rfl (Nat.le_of_ble_eq_true rfl) ⟨Nat.zero_le _, Nat.zero_le _⟩ d_Rt_about_63) [1] rfl rfl ?_
      cases h
      exact gd_iret X hr hlk d_Rt_about_66
    replace h := it_n c_10 h
    have ho_13 : Int32.toInt v2 < 0 ∨ 2 < Int32.toInt v2 := by
      refine tab_out (fun k h1 h2 ek => ?_)
      have h3 : k = 0 ∨ k = 1 ∨ k = 2 := by omega
      rcases h3 with rfl | rfl | rfl
      · exact c_4 (Int32.toInt_inj.mp (ek.trans (by decide)))
      · exact c_7 (Int32.toInt_inj.mp (ek.trans (by decide)))
      · exact c_10 (Int32.toInt_inj.mp (ek.trans (by decide)))
    refine gd_tabOut X (tgt := 67) d_Rt_about_14 ho_13 (by decide) ?_
    refine gd_iconst X (v := (-1)) d_Rt_about_67 (by decide) ?_
    cases h
    exact gd_iret X hr hlk d_Rt_about_68
  · replace h := it_p c_3 h
    refine gd_iconst X (v := (-1)) d_Rt_about_11 (by decide) ?_
    cases h
    exact gd_iret X hr hlk d_Rt_about_12
def m_Rt_about (s_self s_grammar : Nat → Nat → Int32) (v1 v2 : Int32) : Option ((Int32)) := f_Rt_about_0 s_self s_grammar v1 v2
set_option maxHeartbeats 4000000 in
set_option maxRecDepth 100000 in
theorem c_Rt_about (l : Launch) (D : va_G) (K : Nat → ClassId) (a_self a_grammar a_chart a_grower a_short a_row a_tape a_least a_next : Nat → Nat) (s_self s_grammar : Nat → Nat → Int32) (v1 v2 : Int32) (r : Int32) (h : m_Rt_about s_self s_grammar v1 v2 = some r) : SMet l y_Rt_about w_Rt_about rm_Rt_about D classes (tyK K) [.ref (a_self 0), .int v1, .int v2] (some (.int r)) [wd_Rt K a_self (a_grammar 0) (a_chart 0) (a_grower 0) (a_short 0) (a_row 0) (a_tape 0) (a_least 0) (a_next 0) s_self, wd_Gr K a_grammar s_grammar] [wd_Rt K a_self (a_grammar 0) (a_chart 0) (a_grower 0) (a_short 0) (a_row 0) (a_tape 0) (a_least 0) (a_next 0) s_self, wd_Gr K a_grammar s_grammar] := by
  refine sm_of R_Rt (by decide) rfl rfl (Nat.le_of_ble_eq_true rfl) ?_
  intro p e s m below meth c A X hr hlk
  refine gd_loc (lv' := [(0, .ref (a_self 0)), (1, .int v1), (2, .int v2)]) [0, 1, 2] rfl ?_
  exact t_Rt_about_0 a_self a_grammar a_chart a_grower a_short a_row a_tape a_least a_next X hr hlk r s_self s_grammar v1 v2 h
abbrev b_Rt_symbol : ByteArray := prog_1_method_19_code
def y_Rt_symbol : MethodName := ⟨R_Rt, "symbol", "(II)I"⟩
def w_Rt_symbol : List Cond := .code y_Rt_symbol b_Rt_symbol 3 (some .int) :: TB
theorem k_Rt_symbol : Cond.code y_Rt_symbol b_Rt_symbol 3 (some .int) ∈ TB := tb_of 681 (by decide +kernel) (by decide +kernel)
theorem d_Rt_symbol_0 : decode b_Rt_symbol 0 = .ok (.aload_n 0, 1) := by decide +kernel
theorem d_Rt_symbol_1 : decode b_Rt_symbol 1 = .ok (.getfield 12, 3) := by decide +kernel
theorem d_Rt_symbol_4 : decode b_Rt_symbol 4 = .ok (.iload_n 1, 1) := by decide +kernel
theorem d_Rt_symbol_5 : decode b_Rt_symbol 5 = .ok (.iload_n 2, 1) := by decide +kernel
theorem d_Rt_symbol_6 : decode b_Rt_symbol 6 = .ok (.invokevirtual 151, 3) := by decide +kernel
theorem d_Rt_symbol_9 : decode b_Rt_symbol 9 = .ok (.ireturn, 1) := by decide +kernel
theorem ml_Rt_151 : Cond.methodLink R_Rt 151 ⟨"RuleTrees$Grammar", "symbolAt", "(II)I"⟩ ∈ TB := tb_of 682 (by decide +kernel) (by decide +kernel)
abbrev rm_Rt_symbol : Room := { frames := 2, cells := 0, slots := 0, locals := 43 }
def f_Rt_symbol_0 (s_self s_grammar : Nat → Nat → Int32) (v1 v2 : Int32) : Option ((Int32)) :=
  bd1 (m_Gr_symbolAt s_grammar v1 v2) fun r_1 =>
  some (r_1)
set_option maxHeartbeats 4000000 in
set_option maxRecDepth 100000 in
theorem t_Rt_symbol_0 {p : Program} {l : Launch} {e : Env} {s : State} {m : MethodId} {args : Array Value} {below : List Frame} {meth : Method} {c : Code} {A : Nat → Prop} {D : va_G} {K : Nat → ClassId} (a_self a_grammar a_chart a_grower a_short a_row a_tape a_least a_next : Nat → Nat) (X : gx p s m args c b_Rt_symbol 3 R_Rt w_Rt_symbol D classes (tyK K) A) (hr : meth.sig.returnType = some .int) (hlk : meth.locks = false) (r : Int32) (s_self s_grammar : Nat → Nat → Int32) (v1 v2 : Int32) (h : f_Rt_symbol_0 s_self s_grammar v1 v2 = some r) : Gd p l e rm_Rt_symbol s m args below meth c 0 0 (MQ below (sq D classes (tyK K) (some (.int r)) [wd_Rt K a_self (a_grammar 0) (a_chart 0) (a_grower 0) (a_short 0) (a_row 0) (a_tape 0) (a_least 0) (a_next 0) s_self, wd_Gr K a_grammar s_grammar] A) args s 0 0 A) D classes A 3 0 [wd_Rt K a_self (a_grammar 0) (a_chart 0) (a_grower 0) (a_short 0) (a_row 0) (a_tape 0) (a_least 0) (a_next 0) s_self, wd_Gr K a_grammar s_grammar] [(0, .ref (a_self 0)), (1, .int v1), (2, .int v2)] [] := by
  unfold f_Rt_symbol_0 at h
  refine gd_aload_n X d_Rt_symbol_0 0 rfl ?_
  refine gd_get X (ci := 6) (C := R_Rt) (T := F_Rt) (N := 9) (v := .ref (a_grammar 0)) 0 0 rfl rfl rfl (in_Rt _) 0 (by decide) (List.mem_cons_of_mem _ fl_Rt_12) rfl rfl d_Rt_symbol_1 ?_
  refine gd_iload_n X d_Rt_symbol_4 1 rfl ?_
  refine gd_iload_n X d_Rt_symbol_5 2 rfl ?_
  obtain ⟨r_1, hc_2, h⟩ := bd1_e h
  refine gd_pI X (gd_V X (As := [.int v1, .int v2]) (rest := []) (c_Gr_symbolAt l D K a_grammar s_grammar v1 v2 r_1 hc_2) 2 (gi_V ml_Rt_151 u_Gr_symbolAt) rfl ⟨rfl, rfl⟩ (by decide +kernel) ⟨by decide, by decide⟩ (ci := 1) rfl rfl rfl rfl rfl rfl (Nat.le_of_ble_eq_true rfl) ⟨Nat.zero_le _, Nat.zero_le _⟩ d_Rt_symbol_6) [1] rfl rfl ?_
  cases h
  exact gd_iret X hr hlk d_Rt_symbol_9
def m_Rt_symbol (s_self s_grammar : Nat → Nat → Int32) (v1 v2 : Int32) : Option ((Int32)) := f_Rt_symbol_0 s_self s_grammar v1 v2
set_option maxHeartbeats 4000000 in
set_option maxRecDepth 100000 in
theorem c_Rt_symbol (l : Launch) (D : va_G) (K : Nat → ClassId) (a_self a_grammar a_chart a_grower a_short a_row a_tape a_least a_next : Nat → Nat) (s_self s_grammar : Nat → Nat → Int32) (v1 v2 : Int32) (r : Int32) (h : m_Rt_symbol s_self s_grammar v1 v2 = some r) : SMet l y_Rt_symbol w_Rt_symbol rm_Rt_symbol D classes (tyK K) [.ref (a_self 0), .int v1, .int v2] (some (.int r)) [wd_Rt K a_self (a_grammar 0) (a_chart 0) (a_grower 0) (a_short 0) (a_row 0) (a_tape 0) (a_least 0) (a_next 0) s_self, wd_Gr K a_grammar s_grammar] [wd_Rt K a_self (a_grammar 0) (a_chart 0) (a_grower 0) (a_short 0) (a_row 0) (a_tape 0) (a_least 0) (a_next 0) s_self, wd_Gr K a_grammar s_grammar] := by
  refine sm_of R_Rt (by decide) rfl rfl (Nat.le_of_ble_eq_true rfl) ?_
  intro p e s m below meth c A X hr hlk
  refine gd_loc (lv' := [(0, .ref (a_self 0)), (1, .int v1), (2, .int v2)]) [0, 1, 2] rfl ?_
  exact t_Rt_symbol_0 a_self a_grammar a_chart a_grower a_short a_row a_tape a_least a_next X hr hlk r s_self s_grammar v1 v2 h
abbrev b_Rt_count : ByteArray := prog_1_method_20_code
def y_Rt_count : MethodName := ⟨R_Rt, "count", "(I)I"⟩
def w_Rt_count : List Cond := .code y_Rt_count b_Rt_count 2 (some .int) :: TB
theorem k_Rt_count : Cond.code y_Rt_count b_Rt_count 2 (some .int) ∈ TB := tb_of 686 (by decide +kernel) (by decide +kernel)
theorem d_Rt_count_0 : decode b_Rt_count 0 = .ok (.iload_n 1, 1) := by decide +kernel
theorem d_Rt_count_1 : decode b_Rt_count 1 = .ok (.tableswitch 87 0 5 #[39, 47, 55, 63, 71, 79], 39) := by decide +kernel
theorem d_Rt_count_40 : decode b_Rt_count 40 = .ok (.aload_n 0, 1) := by decide +kernel
theorem d_Rt_count_41 : decode b_Rt_count 41 = .ok (.getfield 12, 3) := by decide +kernel
theorem d_Rt_count_44 : decode b_Rt_count 44 = .ok (.getfield 155, 3) := by decide +kernel
theorem d_Rt_count_47 : decode b_Rt_count 47 = .ok (.ireturn, 1) := by decide +kernel
theorem d_Rt_count_48 : decode b_Rt_count 48 = .ok (.aload_n 0, 1) := by decide +kernel
theorem d_Rt_count_49 : decode b_Rt_count 49 = .ok (.getfield 12, 3) := by decide +kernel
theorem d_Rt_count_52 : decode b_Rt_count 52 = .ok (.getfield 158, 3) := by decide +kernel
theorem d_Rt_count_55 : decode b_Rt_count 55 = .ok (.ireturn, 1) := by decide +kernel
theorem d_Rt_count_56 : decode b_Rt_count 56 = .ok (.aload_n 0, 1) := by decide +kernel
theorem d_Rt_count_57 : decode b_Rt_count 57 = .ok (.getfield 12, 3) := by decide +kernel
theorem d_Rt_count_60 : decode b_Rt_count 60 = .ok (.getfield 161, 3) := by decide +kernel
theorem d_Rt_count_63 : decode b_Rt_count 63 = .ok (.ireturn, 1) := by decide +kernel
theorem d_Rt_count_64 : decode b_Rt_count 64 = .ok (.aload_n 0, 1) := by decide +kernel
theorem d_Rt_count_65 : decode b_Rt_count 65 = .ok (.getfield 44, 3) := by decide +kernel
theorem d_Rt_count_68 : decode b_Rt_count 68 = .ok (.getfield 85, 3) := by decide +kernel
theorem d_Rt_count_71 : decode b_Rt_count 71 = .ok (.ireturn, 1) := by decide +kernel
theorem d_Rt_count_72 : decode b_Rt_count 72 = .ok (.aload_n 0, 1) := by decide +kernel
theorem d_Rt_count_73 : decode b_Rt_count 73 = .ok (.getfield 48, 3) := by decide +kernel
theorem d_Rt_count_76 : decode b_Rt_count 76 = .ok (.getfield 85, 3) := by decide +kernel
theorem d_Rt_count_79 : decode b_Rt_count 79 = .ok (.ireturn, 1) := by decide +kernel
theorem d_Rt_count_80 : decode b_Rt_count 80 = .ok (.aload_n 0, 1) := by decide +kernel
theorem d_Rt_count_81 : decode b_Rt_count 81 = .ok (.getfield 12, 3) := by decide +kernel
theorem d_Rt_count_84 : decode b_Rt_count 84 = .ok (.invokevirtual 164, 3) := by decide +kernel
theorem d_Rt_count_87 : decode b_Rt_count 87 = .ok (.ireturn, 1) := by decide +kernel
theorem d_Rt_count_88 : decode b_Rt_count 88 = .ok (.iconst (-1), 1) := by decide +kernel
theorem d_Rt_count_89 : decode b_Rt_count 89 = .ok (.ireturn, 1) := by decide +kernel
theorem fl_Rt_155 : Cond.fieldLink R_Rt 155 "RuleTrees$Grammar" "sorts" "I" ∈ TB := tb_of 87 (by decide +kernel) (by decide +kernel)
theorem fl_Rt_158 : Cond.fieldLink R_Rt 158 "RuleTrees$Grammar" "variables" "I" ∈ TB := tb_of 89 (by decide +kernel) (by decide +kernel)
theorem fl_Rt_161 : Cond.fieldLink R_Rt 161 "RuleTrees$Grammar" "rules" "I" ∈ TB := tb_of 93 (by decide +kernel) (by decide +kernel)
theorem ml_Rt_164 : Cond.methodLink R_Rt 164 ⟨"RuleTrees$Grammar", "begunLength", "()I"⟩ ∈ TB := tb_of 687 (by decide +kernel) (by decide +kernel)
abbrev rm_Rt_count : Room := { frames := 1, cells := 0, slots := 0, locals := 20 }
def f_Rt_count_0 (n_row : Nat) (n_tape : Nat) (s_self s_grammar s_row s_tape : Nat → Nat → Int32) (v1 : Int32) : Option ((Int32)) :=
  if v1 = 0 then
    some (s_grammar 0 0)
  else
  if v1 = 1 then
    some (s_grammar 0 1)
  else
  if v1 = 2 then
    some (s_grammar 0 2)
  else
  if v1 = 3 then
    some (s_row 0 1)
  else
  if v1 = 4 then
    some (s_tape 0 1)
  else
  if v1 = 5 then
    bd1 (m_Gr_begunLength s_grammar) fun r_7 =>
    some (r_7)
  else
  some ((-1))
set_option maxHeartbeats 4000000 in
set_option maxRecDepth 100000 in
theorem t_Rt_count_0 {p : Program} {l : Launch} {e : Env} {s : State} {m : MethodId} {args : Array Value} {below : List Frame} {meth : Method} {c : Code} {A : Nat → Prop} {D : va_G} {K : Nat → ClassId} (a_self a_grammar a_chart a_grower a_short a_row a_tape a_least a_next : Nat → Nat) (n_row : Nat) (n_tape : Nat) (X : gx p s m args c b_Rt_count 2 R_Rt w_Rt_count D classes (tyK K) A) (hr : meth.sig.returnType = some .int) (hlk : meth.locks = false) (r : Int32) (s_self s_grammar s_row s_tape : Nat → Nat → Int32) (v1 : Int32) (h : f_Rt_count_0 n_row n_tape s_self s_grammar s_row s_tape v1 = some r) : Gd p l e rm_Rt_count s m args below meth c 0 0 (MQ below (sq D classes (tyK K) (some (.int r)) [wd_Rt K a_self (a_grammar 0) (a_chart 0) (a_grower 0) (a_short 0) (a_row 0) (a_tape 0) (a_least 0) (a_next 0) s_self, wd_Gr K a_grammar s_grammar, wd_Sy K a_row n_row s_row, wd_Sy K a_tape n_tape s_tape] A) args s 0 0 A) D classes A 2 0 [wd_Rt K a_self (a_grammar 0) (a_chart 0) (a_grower 0) (a_short 0) (a_row 0) (a_tape 0) (a_least 0) (a_next 0) s_self, wd_Gr K a_grammar s_grammar, wd_Sy K a_row n_row s_row, wd_Sy K a_tape n_tape s_tape] [(0, .ref (a_self 0)), (1, .int v1)] [] := by
  unfold f_Rt_count_0 at h
  refine gd_iload_n X d_Rt_count_0 1 rfl ?_
  by_cases c_1 : v1 = 0
  · replace h := it_p c_1 h
    refine gd_tabIn X (tgt := 40) (off := 39) d_Rt_count_1 (by rw [c_1]; decide) (by rw [c_1]; decide) (by rw [c_1]; decide +kernel) (by decide) ?_
    refine gd_aload_n X d_Rt_count_40 0 rfl ?_
    refine gd_get X (ci := 6) (C := R_Rt) (T := F_Rt) (N := 9) (v := .ref (a_grammar 0)) 0 0 rfl rfl rfl (in_Rt _) 0 (by decide) (List.mem_cons_of_mem _ fl_Rt_12) rfl rfl d_Rt_count_41 ?_
    refine gd_get X (ci := 1) (C := R_Gr) (T := F_Gr) (N := 12) (v := .int (s_grammar 0 0)) 1 0 rfl rfl rfl (in_Gr _) 0 (by decide) (List.mem_cons_of_mem _ fl_Rt_155) rfl rfl d_Rt_count_44 ?_
    cases h
    exact gd_iret X hr hlk d_Rt_count_47
  replace h := it_n c_1 h
  by_cases c_2 : v1 = 1
  · replace h := it_p c_2 h
    refine gd_tabIn X (tgt := 48) (off := 47) d_Rt_count_1 (by rw [c_2]; decide) (by rw [c_2]; decide) (by rw [c_2]; decide +kernel) (by decide) ?_
    refine gd_aload_n X d_Rt_count_48 0 rfl ?_
    refine gd_get X (ci := 6) (C := R_Rt) (T := F_Rt) (N := 9) (v := .ref (a_grammar 0)) 0 0 rfl rfl rfl (in_Rt _) 0 (by decide) (List.mem_cons_of_mem _ fl_Rt_12) rfl rfl d_Rt_count_49 ?_
    refine gd_get X (ci := 1) (C := R_Gr) (T := F_Gr) (N := 12) (v := .int (s_grammar 0 1)) 1 0 rfl rfl rfl (in_Gr _) 1 (by decide) (List.mem_cons_of_mem _ fl_Rt_158) rfl rfl d_Rt_count_52 ?_
    cases h
    exact gd_iret X hr hlk d_Rt_count_55
  replace h := it_n c_2 h
  by_cases c_3 : v1 = 2
  · replace h := it_p c_3 h
    refine gd_tabIn X (tgt := 56) (off := 55) d_Rt_count_1 (by rw [c_3]; decide) (by rw [c_3]; decide) (by rw [c_3]; decide +kernel) (by decide) ?_
    refine gd_aload_n X d_Rt_count_56 0 rfl ?_
    refine gd_get X (ci := 6) (C := R_Rt) (T := F_Rt) (N := 9) (v := .ref (a_grammar 0)) 0 0 rfl rfl rfl (in_Rt _) 0 (by decide) (List.mem_cons_of_mem _ fl_Rt_12) rfl rfl d_Rt_count_57 ?_
    refine gd_get X (ci := 1) (C := R_Gr) (T := F_Gr) (N := 12) (v := .int (s_grammar 0 2)) 1 0 rfl rfl rfl (in_Gr _) 2 (by decide) (List.mem_cons_of_mem _ fl_Rt_161) rfl rfl d_Rt_count_60 ?_
    cases h
    exact gd_iret X hr hlk d_Rt_count_63
  replace h := it_n c_3 h
  by_cases c_4 : v1 = 3
  · replace h := it_p c_4 h
    refine gd_tabIn X (tgt := 64) (off := 63) d_Rt_count_1 (by rw [c_4]; decide) (by rw [c_4]; decide) (by rw [c_4]; decide +kernel) (by decide) ?_
    refine gd_aload_n X d_Rt_count_64 0 rfl ?_
    refine gd_get X (ci := 6) (C := R_Rt) (T := F_Rt) (N := 9) (v := .ref (a_row 0)) 0 0 rfl rfl rfl (in_Rt _) 4 (by decide) (List.mem_cons_of_mem _ fl_Rt_44) rfl rfl d_Rt_count_65 ?_
    refine gd_get X (ci := 0) (C := R_Sy) (T := F_Sy) (N := 2) (v := .int (s_row 0 1)) 2 0 rfl rfl rfl (in_Sy _) 1 (by decide) (List.mem_cons_of_mem _ fl_Rt_85) rfl rfl d_Rt_count_68 ?_
    cases h
    exact gd_iret X hr hlk d_Rt_count_71
  replace h := it_n c_4 h
  by_cases c_5 : v1 = 4
  · replace h := it_p c_5 h
    refine gd_tabIn X (tgt := 72) (off := 71) d_Rt_count_1 (by rw [c_5]; decide) (by rw [c_5]; decide) (by rw [c_5]; decide +kernel) (by decide) ?_
    refine gd_aload_n X d_Rt_count_72 0 rfl ?_
    refine gd_get X (ci := 6) (C := R_Rt) (T := F_Rt) (N := 9) (v := .ref (a_tape 0)) 0 0 rfl rfl rfl (in_Rt _) 5 (by decide) (List.mem_cons_of_mem _ fl_Rt_48) rfl rfl d_Rt_count_73 ?_
    refine gd_get X (ci := 0) (C := R_Sy) (T := F_Sy) (N := 2) (v := .int (s_tape 0 1)) 3 0 rfl rfl rfl (in_Sy _) 1 (by decide) (List.mem_cons_of_mem _ fl_Rt_85) rfl rfl d_Rt_count_76 ?_
    cases h
    exact gd_iret X hr hlk d_Rt_count_79
  replace h := it_n c_5 h
  by_cases c_6 : v1 = 5
  · replace h := it_p c_6 h
    refine gd_tabIn X (tgt := 80) (off := 79) d_Rt_count_1 (by rw [c_6]; decide) (by rw [c_6]; decide) (by rw [c_6]; decide +kernel) (by decide) ?_
    refine gd_aload_n X d_Rt_count_80 0 rfl ?_
    refine gd_get X (ci := 6) (C := R_Rt) (T := F_Rt) (N := 9) (v := .ref (a_grammar 0)) 0 0 rfl rfl rfl (in_Rt _) 0 (by decide) (List.mem_cons_of_mem _ fl_Rt_12) rfl rfl d_Rt_count_81 ?_
    obtain ⟨r_7, hc_8, h⟩ := bd1_e h
    refine gd_pI X (gd_V X (As := []) (rest := []) (c_Gr_begunLength l D K a_grammar s_grammar r_7 hc_8) 0 (gi_V ml_Rt_164 u_Gr_begunLength) rfl ⟨rfl, rfl⟩ (by decide +kernel) ⟨by decide, by decide⟩ (ci := 1) rfl rfl rfl rfl rfl rfl (Nat.le_of_ble_eq_true rfl) ⟨Nat.zero_le _, Nat.zero_le _⟩ d_Rt_count_84) [1] rfl rfl ?_
    cases h
    exact gd_iret X hr hlk d_Rt_count_87
  replace h := it_n c_6 h
  have ho_9 : Int32.toInt v1 < 0 ∨ 5 < Int32.toInt v1 := by
    refine tab_out (fun k h1 h2 ek => ?_)
    have h3 : k = 0 ∨ k = 1 ∨ k = 2 ∨ k = 3 ∨ k = 4 ∨ k = 5 := by omega
    rcases h3 with rfl | rfl | rfl | rfl | rfl | rfl
    · exact c_1 (Int32.toInt_inj.mp (ek.trans (by decide)))
    · exact c_2 (Int32.toInt_inj.mp (ek.trans (by decide)))
    · exact c_3 (Int32.toInt_inj.mp (ek.trans (by decide)))
    · exact c_4 (Int32.toInt_inj.mp (ek.trans (by decide)))
    · exact c_5 (Int32.toInt_inj.mp (ek.trans (by decide)))
    · exact c_6 (Int32.toInt_inj.mp (ek.trans (by decide)))
  refine gd_tabOut X (tgt := 88) d_Rt_count_1 ho_9 (by decide) ?_
  refine gd_iconst X (v := (-1)) d_Rt_count_88 (by decide) ?_
  cases h
  exact gd_iret X hr hlk d_Rt_count_89
def m_Rt_count (n_row : Nat) (n_tape : Nat) (s_self s_grammar s_row s_tape : Nat → Nat → Int32) (v1 : Int32) : Option ((Int32)) := f_Rt_count_0 n_row n_tape s_self s_grammar s_row s_tape v1
set_option maxHeartbeats 4000000 in
set_option maxRecDepth 100000 in
theorem c_Rt_count (l : Launch) (D : va_G) (K : Nat → ClassId) (a_self a_grammar a_chart a_grower a_short a_row a_tape a_least a_next : Nat → Nat) (n_row : Nat) (n_tape : Nat) (s_self s_grammar s_row s_tape : Nat → Nat → Int32) (v1 : Int32) (r : Int32) (h : m_Rt_count n_row n_tape s_self s_grammar s_row s_tape v1 = some r) : SMet l y_Rt_count w_Rt_count rm_Rt_count D classes (tyK K) [.ref (a_self 0), .int v1] (some (.int r)) [wd_Rt K a_self (a_grammar 0) (a_chart 0) (a_grower 0) (a_short 0) (a_row 0) (a_tape 0) (a_least 0) (a_next 0) s_self, wd_Gr K a_grammar s_grammar, wd_Sy K a_row n_row s_row, wd_Sy K a_tape n_tape s_tape] [wd_Rt K a_self (a_grammar 0) (a_chart 0) (a_grower 0) (a_short 0) (a_row 0) (a_tape 0) (a_least 0) (a_next 0) s_self, wd_Gr K a_grammar s_grammar, wd_Sy K a_row n_row s_row, wd_Sy K a_tape n_tape s_tape] := by
  refine sm_of R_Rt (by decide) rfl rfl (Nat.le_of_ble_eq_true rfl) ?_
  intro p e s m below meth c A X hr hlk
  refine gd_loc (lv' := [(0, .ref (a_self 0)), (1, .int v1)]) [0, 1] rfl ?_
  exact t_Rt_count_0 a_self a_grammar a_chart a_grower a_short a_row a_tape a_least a_next n_row n_tape X hr hlk r s_self s_grammar s_row s_tape v1 h
abbrev b_Rt_isTreeOfRow : ByteArray := prog_1_method_24_code
def y_Rt_isTreeOfRow : MethodName := ⟨R_Rt, "isTreeOfRow", "(LRuleTrees$Symbols;I)Z"⟩
def w_Rt_isTreeOfRow : List Cond := .code y_Rt_isTreeOfRow b_Rt_isTreeOfRow 3 (some .boolean) :: TB
theorem k_Rt_isTreeOfRow : Cond.code y_Rt_isTreeOfRow b_Rt_isTreeOfRow 3 (some .boolean) ∈ TB := tb_of 699 (by decide +kernel) (by decide +kernel)
theorem d_Rt_isTreeOfRow_0 : decode b_Rt_isTreeOfRow 0 = .ok (.aload_n 0, 1) := by decide +kernel
theorem d_Rt_isTreeOfRow_1 : decode b_Rt_isTreeOfRow 1 = .ok (.getfield 28, 3) := by decide +kernel
theorem d_Rt_isTreeOfRow_4 : decode b_Rt_isTreeOfRow 4 = .ok (.aload_n 1, 1) := by decide +kernel
theorem d_Rt_isTreeOfRow_5 : decode b_Rt_isTreeOfRow 5 = .ok (.iload_n 2, 1) := by decide +kernel
theorem d_Rt_isTreeOfRow_6 : decode b_Rt_isTreeOfRow 6 = .ok (.invokevirtual 123, 3) := by decide +kernel
theorem d_Rt_isTreeOfRow_9 : decode b_Rt_isTreeOfRow 9 = .ok (.ifCond .ne 24, 3) := by decide +kernel
theorem d_Rt_isTreeOfRow_12 : decode b_Rt_isTreeOfRow 12 = .ok (.aload_n 0, 1) := by decide +kernel
theorem d_Rt_isTreeOfRow_13 : decode b_Rt_isTreeOfRow 13 = .ok (.getfield 28, 3) := by decide +kernel
theorem d_Rt_isTreeOfRow_16 : decode b_Rt_isTreeOfRow 16 = .ok (.getfield 130, 3) := by decide +kernel
theorem d_Rt_isTreeOfRow_19 : decode b_Rt_isTreeOfRow 19 = .ok (.aload_n 0, 1) := by decide +kernel
theorem d_Rt_isTreeOfRow_20 : decode b_Rt_isTreeOfRow 20 = .ok (.getfield 44, 3) := by decide +kernel
theorem d_Rt_isTreeOfRow_23 : decode b_Rt_isTreeOfRow 23 = .ok (.invokevirtual 178, 3) := by decide +kernel
theorem d_Rt_isTreeOfRow_26 : decode b_Rt_isTreeOfRow 26 = .ok (.ifCond .eq 7, 3) := by decide +kernel
theorem d_Rt_isTreeOfRow_29 : decode b_Rt_isTreeOfRow 29 = .ok (.iconst 1, 1) := by decide +kernel
theorem d_Rt_isTreeOfRow_30 : decode b_Rt_isTreeOfRow 30 = .ok (.goto 4, 3) := by decide +kernel
theorem d_Rt_isTreeOfRow_33 : decode b_Rt_isTreeOfRow 33 = .ok (.iconst 0, 1) := by decide +kernel
theorem d_Rt_isTreeOfRow_34 : decode b_Rt_isTreeOfRow 34 = .ok (.ireturn, 1) := by decide +kernel
theorem ml_Rt_178 : Cond.methodLink R_Rt 178 ⟨"RuleTrees$Symbols", "isSameAs", "(LRuleTrees$Symbols;)Z"⟩ ∈ TB := tb_of 700 (by decide +kernel) (by decide +kernel)
theorem u_Sy_isSameAs : (Cond.instanceMethod y_Sy_isSameAs ∈ TB ∧ Cond.selects R_Sy y_Sy_isSameAs y_Sy_isSameAs ∈ TB) ∧ Cond.initialized R_Sy ∈ TB ∧ Cond.code y_Sy_isSameAs b_Sy_isSameAs 2 (some .boolean) ∈ TB := ⟨⟨(tb_of 701 (by decide +kernel) (by decide +kernel)), (tb_of 702 (by decide +kernel) (by decide +kernel))⟩, (tb_of 67 (by decide +kernel) (by decide +kernel)), k_Sy_isSameAs⟩
abbrev rm_Rt_isTreeOfRow : Room := { frames := 5, cells := 0, slots := 0, locals := 115 }
def f_Rt_isTreeOfRow_0 (N : Nat) (n_grown : Nat) (n_joined : Nat) (n_row : Nat) (n_p0 : Nat) (s_self s_grammar s_grower s_grown s_joined s_row s_p0 : Nat → Nat → Int32) (v2 : Int32) : Option ((Int32) × (Nat → Nat → Int32) × (Nat → Nat → Int32) × (Nat → Nat → Int32)) :=
  bd4 (m_Gw_judge N n_grown n_joined n_p0 s_grower s_grammar s_grown s_joined s_p0 v2) fun r_1 s_grower_2 s_grown_3 s_joined_4 =>
  if r_1 = 0 then
    bd1 (m_Sy_isSameAs N n_grown n_row s_grown_3 s_row) fun r_7 =>
    if r_7 = 0 then
      some ((0), s_grower_2, s_grown_3, s_joined_4)
    else
      some ((1), s_grower_2, s_grown_3, s_joined_4)
  else
    some ((0), s_grower_2, s_grown_3, s_joined_4)
set_option maxHeartbeats 4000000 in
set_option maxRecDepth 100000 in
theorem t_Rt_isTreeOfRow_0 {p : Program} {l : Launch} {e : Env} {s : State} {m : MethodId} {args : Array Value} {below : List Frame} {meth : Method} {c : Code} {A : Nat → Prop} {D : va_G} {K : Nat → ClassId} (a_self a_grammar a_chart a_grower a_grown a_joined a_short a_row a_tape a_least a_next a_p0 : Nat → Nat) (n_grown : Nat) (n_joined : Nat) (n_row : Nat) (n_p0 : Nat) (X : gx p s m args c b_Rt_isTreeOfRow 3 R_Rt w_Rt_isTreeOfRow D classes (tyK K) A) (hr : meth.sig.returnType = some .boolean) (hlk : meth.locks = false) (N : Nat) (r : Int32) (f_grower f_grown f_joined : Nat → Nat → Int32) (s_self s_grammar s_grower s_grown s_joined s_row s_p0 : Nat → Nat → Int32) (v2 : Int32) (h : f_Rt_isTreeOfRow_0 N n_grown n_joined n_row n_p0 s_self s_grammar s_grower s_grown s_joined s_row s_p0 v2 = some (r, f_grower, f_grown, f_joined)) : Gd p l e rm_Rt_isTreeOfRow s m args below meth c 0 0 (MQ below (sq D classes (tyK K) (some (.int r)) [wd_Rt K a_self (a_grammar 0) (a_chart 0) (a_grower 0) (a_short 0) (a_row 0) (a_tape 0) (a_least 0) (a_next 0) s_self, wd_Gr K a_grammar s_grammar, wd_Gw K a_grower (a_grammar 0) (a_grown 0) (a_joined 0) f_grower, wd_Sy K a_grown n_grown f_grown, wd_Sy K a_joined n_joined f_joined, wd_Sy K a_row n_row s_row, wd_Sy K a_p0 n_p0 s_p0] A) args s 0 0 A) D classes A 3 0 [wd_Rt K a_self (a_grammar 0) (a_chart 0) (a_grower 0) (a_short 0) (a_row 0) (a_tape 0) (a_least 0) (a_next 0) s_self, wd_Gr K a_grammar s_grammar, wd_Gw K a_grower (a_grammar 0) (a_grown 0) (a_joined 0) s_grower, wd_Sy K a_grown n_grown s_grown, wd_Sy K a_joined n_joined s_joined, wd_Sy K a_row n_row s_row, wd_Sy K a_p0 n_p0 s_p0] [(0, .ref (a_self 0)), (1, .ref (a_p0 0)), (2, .int v2)] [] := by
  unfold f_Rt_isTreeOfRow_0 at h
  refine gd_aload_n X d_Rt_isTreeOfRow_0 0 rfl ?_
  refine gd_get X (ci := 6) (C := R_Rt) (T := F_Rt) (N := 9) (v := .ref (a_grower 0)) 0 0 rfl rfl rfl (in_Rt _) 2 (by decide) (List.mem_cons_of_mem _ fl_Rt_28) rfl rfl d_Rt_isTreeOfRow_1 ?_
  refine gd_aload_n X d_Rt_isTreeOfRow_4 1 rfl ?_
  refine gd_iload_n X d_Rt_isTreeOfRow_5 2 rfl ?_
  obtain ⟨r_1, s_grower_2, s_grown_3, s_joined_4, hc_5, h⟩ := bd4_e h
  refine gd_cI X (gd_V X (As := [.ref (a_p0 0), .int v2]) (rest := []) (c_Gw_judge l D K a_grower a_grammar a_grown a_joined a_p0 n_grown n_joined n_p0 N s_grower s_grammar s_grown s_joined s_p0 v2 r_1 s_grower_2 s_grown_3 s_joined_4 hc_5) 2 (gi_V ml_Rt_123 u_Gw_judge) rfl ⟨rfl, rfl⟩ (by decide +kernel) ⟨by decide, by decide⟩ (ci := 4) rfl rfl rfl rfl rfl rfl (Nat.le_of_ble_eq_true rfl) ⟨Nat.zero_le _, Nat.zero_le _⟩ d_Rt_isTreeOfRow_6) (w2 := [wd_Rt K a_self (a_grammar 0) (a_chart 0) (a_grower 0) (a_short 0) (a_row 0) (a_tape 0) (a_least 0) (a_next 0) s_self, wd_Gr K a_grammar s_grammar, wd_Gw K a_grower (a_grammar 0) (a_grown 0) (a_joined 0) s_grower_2, wd_Sy K a_grown n_grown s_grown_3, wd_Sy K a_joined n_joined s_joined_4, wd_Sy K a_row n_row s_row, wd_Sy K a_p0 n_p0 s_p0]) [2, 1, 3, 4, 6] [0, 5] rfl rfl rfl rfl ⟨rfl, rfl⟩ rfl ?_
  refine gd_if_ne X (tgt := 33) d_Rt_isTreeOfRow_9 (by decide) (fun c_6 => ?_) (fun c_6 => ?_)
  · replace h := it_n c_6 h
    refine gd_iconst X (v := 0) d_Rt_isTreeOfRow_33 (by decide) ?_
    cases h
    exact gd_zret X hr hlk (by decide) d_Rt_isTreeOfRow_34
  · replace h := it_p c_6 h
    refine gd_aload_n X d_Rt_isTreeOfRow_12 0 rfl ?_
    refine gd_get X (ci := 6) (C := R_Rt) (T := F_Rt) (N := 9) (v := .ref (a_grower 0)) 0 0 rfl rfl rfl (in_Rt _) 2 (by decide) (List.mem_cons_of_mem _ fl_Rt_28) rfl rfl d_Rt_isTreeOfRow_13 ?_
    refine gd_get X (ci := 4) (C := R_Gw) (T := F_Gw) (N := 7) (v := .ref (a_grown 0)) 2 0 rfl rfl rfl (in_Gw _) 2 (by decide) (List.mem_cons_of_mem _ fl_Rt_130) rfl rfl d_Rt_isTreeOfRow_16 ?_
    refine gd_aload_n X d_Rt_isTreeOfRow_19 0 rfl ?_
    refine gd_get X (ci := 6) (C := R_Rt) (T := F_Rt) (N := 9) (v := .ref (a_row 0)) 0 0 rfl rfl rfl (in_Rt _) 4 (by decide) (List.mem_cons_of_mem _ fl_Rt_44) rfl rfl d_Rt_isTreeOfRow_20 ?_
    obtain ⟨r_7, hc_8, h⟩ := bd1_e h
    refine gd_pI X (gd_V X (As := [.ref (a_row 0)]) (rest := []) (c_Sy_isSameAs l D K a_grown a_row n_grown n_row N s_grown_3 s_row r_7 hc_8) 1 (gi_V ml_Rt_178 u_Sy_isSameAs) rfl ⟨rfl, rfl⟩ (by decide +kernel) ⟨by decide, by decide⟩ (ci := 0) rfl rfl rfl rfl rfl rfl (Nat.le_of_ble_eq_true rfl) ⟨Nat.zero_le _, Nat.zero_le _⟩ d_Rt_isTreeOfRow_23) [3, 5] rfl rfl ?_
    refine gd_if_eq X (tgt := 33) d_Rt_isTreeOfRow_26 (by decide) (fun c_9 => ?_) (fun c_9 => ?_)
    · replace h := it_p c_9 h
      refine gd_iconst X (v := 0) d_Rt_isTreeOfRow_33 (by decide) ?_
      cases h
      exact gd_zret X hr hlk (by decide) d_Rt_isTreeOfRow_34
    · replace h := it_n c_9 h
      refine gd_iconst X (v := 1) d_Rt_isTreeOfRow_29 (by decide) ?_
      refine gd_goto X (tgt := 34) d_Rt_isTreeOfRow_30 (by decide) ?_
      cases h
      exact gd_zret X hr hlk (by decide) d_Rt_isTreeOfRow_34
def m_Rt_isTreeOfRow (N : Nat) (n_grown : Nat) (n_joined : Nat) (n_row : Nat) (n_p0 : Nat) (s_self s_grammar s_grower s_grown s_joined s_row s_p0 : Nat → Nat → Int32) (v2 : Int32) : Option ((Int32) × (Nat → Nat → Int32) × (Nat → Nat → Int32) × (Nat → Nat → Int32)) := f_Rt_isTreeOfRow_0 N n_grown n_joined n_row n_p0 s_self s_grammar s_grower s_grown s_joined s_row s_p0 v2
set_option maxHeartbeats 4000000 in
set_option maxRecDepth 100000 in
theorem c_Rt_isTreeOfRow (l : Launch) (D : va_G) (K : Nat → ClassId) (a_self a_grammar a_chart a_grower a_grown a_joined a_short a_row a_tape a_least a_next a_p0 : Nat → Nat) (n_grown : Nat) (n_joined : Nat) (n_row : Nat) (n_p0 : Nat) (N : Nat) (s_self s_grammar s_grower s_grown s_joined s_row s_p0 : Nat → Nat → Int32) (v2 : Int32) (r : Int32) (f_grower f_grown f_joined : Nat → Nat → Int32) (h : m_Rt_isTreeOfRow N n_grown n_joined n_row n_p0 s_self s_grammar s_grower s_grown s_joined s_row s_p0 v2 = some (r, f_grower, f_grown, f_joined)) : SMet l y_Rt_isTreeOfRow w_Rt_isTreeOfRow rm_Rt_isTreeOfRow D classes (tyK K) [.ref (a_self 0), .ref (a_p0 0), .int v2] (some (.int r)) [wd_Rt K a_self (a_grammar 0) (a_chart 0) (a_grower 0) (a_short 0) (a_row 0) (a_tape 0) (a_least 0) (a_next 0) s_self, wd_Gr K a_grammar s_grammar, wd_Gw K a_grower (a_grammar 0) (a_grown 0) (a_joined 0) s_grower, wd_Sy K a_grown n_grown s_grown, wd_Sy K a_joined n_joined s_joined, wd_Sy K a_row n_row s_row, wd_Sy K a_p0 n_p0 s_p0] [wd_Rt K a_self (a_grammar 0) (a_chart 0) (a_grower 0) (a_short 0) (a_row 0) (a_tape 0) (a_least 0) (a_next 0) s_self, wd_Gr K a_grammar s_grammar, wd_Gw K a_grower (a_grammar 0) (a_grown 0) (a_joined 0) f_grower, wd_Sy K a_grown n_grown f_grown, wd_Sy K a_joined n_joined f_joined, wd_Sy K a_row n_row s_row, wd_Sy K a_p0 n_p0 s_p0] := by
  refine sm_of R_Rt (by decide) rfl rfl (Nat.le_of_ble_eq_true rfl) ?_
  intro p e s m below meth c A X hr hlk
  refine gd_loc (lv' := [(0, .ref (a_self 0)), (1, .ref (a_p0 0)), (2, .int v2)]) [0, 1, 2] rfl ?_
  exact t_Rt_isTreeOfRow_0 a_self a_grammar a_chart a_grower a_grown a_joined a_short a_row a_tape a_least a_next a_p0 n_grown n_joined n_row n_p0 X hr hlk N r f_grower f_grown f_joined s_self s_grammar s_grower s_grown s_joined s_row s_p0 v2 h
