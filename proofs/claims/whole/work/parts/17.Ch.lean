abbrev b_Ch_addTrees : ByteArray := prog_2_method_17_code
def y_Ch_addTrees : MethodName := ⟨R_Ch, "addTrees", "(III)V"⟩
def w_Ch_addTrees : List Cond := .code y_Ch_addTrees b_Ch_addTrees 9 none :: TB
theorem k_Ch_addTrees : Cond.code y_Ch_addTrees b_Ch_addTrees 9 none ∈ TB := tb_of 483 (by decide +kernel) (by decide +kernel)
theorem d_Ch_addTrees_0 : decode b_Ch_addTrees 0 = .ok (.aload_n 0, 1) := by decide +kernel
theorem d_Ch_addTrees_1 : decode b_Ch_addTrees 1 = .ok (.getfield 9, 3) := by decide +kernel
theorem d_Ch_addTrees_4 : decode b_Ch_addTrees 4 = .ok (.iload_n 1, 1) := by decide +kernel
theorem d_Ch_addTrees_5 : decode b_Ch_addTrees 5 = .ok (.invokevirtual 97, 3) := by decide +kernel
theorem d_Ch_addTrees_8 : decode b_Ch_addTrees 8 = .ok (.iload_n 2, 1) := by decide +kernel
theorem d_Ch_addTrees_9 : decode b_Ch_addTrees 9 = .ok (.iload_n 3, 1) := by decide +kernel
theorem d_Ch_addTrees_10 : decode b_Ch_addTrees 10 = .ok (.invokestatic 44, 3) := by decide +kernel
theorem d_Ch_addTrees_13 : decode b_Ch_addTrees 13 = .ok (.istore 4, 2) := by decide +kernel
theorem d_Ch_addTrees_15 : decode b_Ch_addTrees 15 = .ok (.aload_n 0, 1) := by decide +kernel
theorem d_Ch_addTrees_16 : decode b_Ch_addTrees 16 = .ok (.getfield 9, 3) := by decide +kernel
theorem d_Ch_addTrees_19 : decode b_Ch_addTrees 19 = .ok (.iload_n 1, 1) := by decide +kernel
theorem d_Ch_addTrees_20 : decode b_Ch_addTrees 20 = .ok (.invokevirtual 162, 3) := by decide +kernel
theorem d_Ch_addTrees_23 : decode b_Ch_addTrees 23 = .ok (.istore 5, 2) := by decide +kernel
theorem d_Ch_addTrees_25 : decode b_Ch_addTrees 25 = .ok (.iconst 1, 1) := by decide +kernel
theorem d_Ch_addTrees_26 : decode b_Ch_addTrees 26 = .ok (.istore 6, 2) := by decide +kernel
theorem d_Ch_addTrees_28 : decode b_Ch_addTrees 28 = .ok (.aload_n 0, 1) := by decide +kernel
theorem d_Ch_addTrees_29 : decode b_Ch_addTrees 29 = .ok (.getfield 18, 3) := by decide +kernel
theorem d_Ch_addTrees_32 : decode b_Ch_addTrees 32 = .ok (.iload_n 1, 1) := by decide +kernel
theorem d_Ch_addTrees_33 : decode b_Ch_addTrees 33 = .ok (.iload 5, 2) := by decide +kernel
theorem d_Ch_addTrees_35 : decode b_Ch_addTrees 35 = .ok (.invokevirtual 136, 3) := by decide +kernel
theorem d_Ch_addTrees_38 : decode b_Ch_addTrees 38 = .ok (.iconst 0, 1) := by decide +kernel
theorem d_Ch_addTrees_39 : decode b_Ch_addTrees 39 = .ok (.istore 7, 2) := by decide +kernel
theorem d_Ch_addTrees_41 : decode b_Ch_addTrees 41 = .ok (.iload 7, 2) := by decide +kernel
theorem d_Ch_addTrees_43 : decode b_Ch_addTrees 43 = .ok (.iload 5, 2) := by decide +kernel
theorem d_Ch_addTrees_45 : decode b_Ch_addTrees 45 = .ok (.if_icmp .ge 46, 3) := by decide +kernel
theorem d_Ch_addTrees_48 : decode b_Ch_addTrees 48 = .ok (.aload_n 0, 1) := by decide +kernel
theorem d_Ch_addTrees_49 : decode b_Ch_addTrees 49 = .ok (.iload_n 1, 1) := by decide +kernel
theorem d_Ch_addTrees_50 : decode b_Ch_addTrees 50 = .ok (.iload 7, 2) := by decide +kernel
theorem d_Ch_addTrees_52 : decode b_Ch_addTrees 52 = .ok (.invokevirtual 165, 3) := by decide +kernel
theorem d_Ch_addTrees_55 : decode b_Ch_addTrees 55 = .ok (.istore 8, 2) := by decide +kernel
theorem d_Ch_addTrees_57 : decode b_Ch_addTrees 57 = .ok (.iload 6, 2) := by decide +kernel
theorem d_Ch_addTrees_59 : decode b_Ch_addTrees 59 = .ok (.aload_n 0, 1) := by decide +kernel
theorem d_Ch_addTrees_60 : decode b_Ch_addTrees 60 = .ok (.iload 8, 2) := by decide +kernel
theorem d_Ch_addTrees_62 : decode b_Ch_addTrees 62 = .ok (.invokevirtual 48, 3) := by decide +kernel
theorem d_Ch_addTrees_65 : decode b_Ch_addTrees 65 = .ok (.invokestatic 168, 3) := by decide +kernel
theorem d_Ch_addTrees_68 : decode b_Ch_addTrees 68 = .ok (.istore 6, 2) := by decide +kernel
theorem d_Ch_addTrees_70 : decode b_Ch_addTrees 70 = .ok (.aload_n 0, 1) := by decide +kernel
theorem d_Ch_addTrees_71 : decode b_Ch_addTrees 71 = .ok (.getfield 18, 3) := by decide +kernel
theorem d_Ch_addTrees_74 : decode b_Ch_addTrees 74 = .ok (.iload 7, 2) := by decide +kernel
theorem d_Ch_addTrees_76 : decode b_Ch_addTrees 76 = .ok (.iload 8, 2) := by decide +kernel
theorem d_Ch_addTrees_78 : decode b_Ch_addTrees 78 = .ok (.iconst 0, 1) := by decide +kernel
theorem d_Ch_addTrees_79 : decode b_Ch_addTrees 79 = .ok (.invokestatic 52, 3) := by decide +kernel
theorem d_Ch_addTrees_82 : decode b_Ch_addTrees 82 = .ok (.invokevirtual 173, 3) := by decide +kernel
theorem d_Ch_addTrees_85 : decode b_Ch_addTrees 85 = .ok (.iinc 7 1, 3) := by decide +kernel
theorem d_Ch_addTrees_88 : decode b_Ch_addTrees 88 = .ok (.goto (-47), 3) := by decide +kernel
theorem d_Ch_addTrees_91 : decode b_Ch_addTrees 91 = .ok (.aload_n 0, 1) := by decide +kernel
theorem d_Ch_addTrees_92 : decode b_Ch_addTrees 92 = .ok (.iload 4, 2) := by decide +kernel
theorem d_Ch_addTrees_94 : decode b_Ch_addTrees 94 = .ok (.aload_n 0, 1) := by decide +kernel
theorem d_Ch_addTrees_95 : decode b_Ch_addTrees 95 = .ok (.iload 4, 2) := by decide +kernel
theorem d_Ch_addTrees_97 : decode b_Ch_addTrees 97 = .ok (.invokevirtual 48, 3) := by decide +kernel
theorem d_Ch_addTrees_100 : decode b_Ch_addTrees 100 = .ok (.iload 6, 2) := by decide +kernel
theorem d_Ch_addTrees_102 : decode b_Ch_addTrees 102 = .ok (.invokestatic 176, 3) := by decide +kernel
theorem d_Ch_addTrees_105 : decode b_Ch_addTrees 105 = .ok (.invokevirtual 110, 3) := by decide +kernel
theorem d_Ch_addTrees_108 : decode b_Ch_addTrees 108 = .ok (.aload_n 0, 1) := by decide +kernel
theorem d_Ch_addTrees_109 : decode b_Ch_addTrees 109 = .ok (.getfield 18, 3) := by decide +kernel
theorem d_Ch_addTrees_112 : decode b_Ch_addTrees 112 = .ok (.iload 4, 2) := by decide +kernel
theorem d_Ch_addTrees_114 : decode b_Ch_addTrees 114 = .ok (.invokevirtual 139, 3) := by decide +kernel
theorem d_Ch_addTrees_117 : decode b_Ch_addTrees 117 = .ok (.iconst 0, 1) := by decide +kernel
theorem d_Ch_addTrees_118 : decode b_Ch_addTrees 118 = .ok (.istore 7, 2) := by decide +kernel
theorem d_Ch_addTrees_120 : decode b_Ch_addTrees 120 = .ok (.iload 7, 2) := by decide +kernel
theorem d_Ch_addTrees_122 : decode b_Ch_addTrees 122 = .ok (.iload 5, 2) := by decide +kernel
theorem d_Ch_addTrees_124 : decode b_Ch_addTrees 124 = .ok (.if_icmp .ge 73, 3) := by decide +kernel
theorem d_Ch_addTrees_127 : decode b_Ch_addTrees 127 = .ok (.aload_n 0, 1) := by decide +kernel
theorem d_Ch_addTrees_128 : decode b_Ch_addTrees 128 = .ok (.iload_n 1, 1) := by decide +kernel
theorem d_Ch_addTrees_129 : decode b_Ch_addTrees 129 = .ok (.iload 7, 2) := by decide +kernel
theorem d_Ch_addTrees_131 : decode b_Ch_addTrees 131 = .ok (.invokevirtual 165, 3) := by decide +kernel
theorem d_Ch_addTrees_134 : decode b_Ch_addTrees 134 = .ok (.istore 8, 2) := by decide +kernel
theorem d_Ch_addTrees_136 : decode b_Ch_addTrees 136 = .ok (.aload_n 0, 1) := by decide +kernel
theorem d_Ch_addTrees_137 : decode b_Ch_addTrees 137 = .ok (.getfield 18, 3) := by decide +kernel
theorem d_Ch_addTrees_140 : decode b_Ch_addTrees 140 = .ok (.iload 8, 2) := by decide +kernel
theorem d_Ch_addTrees_142 : decode b_Ch_addTrees 142 = .ok (.iconst 1, 1) := by decide +kernel
theorem d_Ch_addTrees_143 : decode b_Ch_addTrees 143 = .ok (.invokestatic 52, 3) := by decide +kernel
theorem d_Ch_addTrees_146 : decode b_Ch_addTrees 146 = .ok (.invokevirtual 56, 3) := by decide +kernel
theorem d_Ch_addTrees_149 : decode b_Ch_addTrees 149 = .ok (.ifCond .le 42, 3) := by decide +kernel
theorem d_Ch_addTrees_152 : decode b_Ch_addTrees 152 = .ok (.aload_n 0, 1) := by decide +kernel
theorem d_Ch_addTrees_153 : decode b_Ch_addTrees 153 = .ok (.getfield 18, 3) := by decide +kernel
theorem d_Ch_addTrees_156 : decode b_Ch_addTrees 156 = .ok (.iload 7, 2) := by decide +kernel
theorem d_Ch_addTrees_158 : decode b_Ch_addTrees 158 = .ok (.iload 8, 2) := by decide +kernel
theorem d_Ch_addTrees_160 : decode b_Ch_addTrees 160 = .ok (.iconst 1, 1) := by decide +kernel
theorem d_Ch_addTrees_161 : decode b_Ch_addTrees 161 = .ok (.invokestatic 52, 3) := by decide +kernel
theorem d_Ch_addTrees_164 : decode b_Ch_addTrees 164 = .ok (.invokevirtual 173, 3) := by decide +kernel
theorem d_Ch_addTrees_167 : decode b_Ch_addTrees 167 = .ok (.aload_n 0, 1) := by decide +kernel
theorem d_Ch_addTrees_168 : decode b_Ch_addTrees 168 = .ok (.getfield 18, 3) := by decide +kernel
theorem d_Ch_addTrees_171 : decode b_Ch_addTrees 171 = .ok (.iload 4, 2) := by decide +kernel
theorem d_Ch_addTrees_173 : decode b_Ch_addTrees 173 = .ok (.invokevirtual 139, 3) := by decide +kernel
theorem d_Ch_addTrees_176 : decode b_Ch_addTrees 176 = .ok (.aload_n 0, 1) := by decide +kernel
theorem d_Ch_addTrees_177 : decode b_Ch_addTrees 177 = .ok (.getfield 18, 3) := by decide +kernel
theorem d_Ch_addTrees_180 : decode b_Ch_addTrees 180 = .ok (.iload 7, 2) := by decide +kernel
theorem d_Ch_addTrees_182 : decode b_Ch_addTrees 182 = .ok (.iload 8, 2) := by decide +kernel
theorem d_Ch_addTrees_184 : decode b_Ch_addTrees 184 = .ok (.iconst 0, 1) := by decide +kernel
theorem d_Ch_addTrees_185 : decode b_Ch_addTrees 185 = .ok (.invokestatic 52, 3) := by decide +kernel
theorem d_Ch_addTrees_188 : decode b_Ch_addTrees 188 = .ok (.invokevirtual 173, 3) := by decide +kernel
theorem d_Ch_addTrees_191 : decode b_Ch_addTrees 191 = .ok (.iinc 7 1, 3) := by decide +kernel
theorem d_Ch_addTrees_194 : decode b_Ch_addTrees 194 = .ok (.goto (-74), 3) := by decide +kernel
theorem d_Ch_addTrees_197 : decode b_Ch_addTrees 197 = .ok (.return_, 1) := by decide +kernel
theorem ml_Ch_165 : Cond.methodLink R_Ch 165 ⟨"RuleTrees$Chart", "partCell", "(II)I"⟩ ∈ TB := tb_of 485 (by decide +kernel) (by decide +kernel)
theorem u_Ch_partCell : (Cond.instanceMethod y_Ch_partCell ∈ TB ∧ Cond.selects R_Ch y_Ch_partCell y_Ch_partCell ∈ TB) ∧ Cond.initialized R_Ch ∈ TB ∧ Cond.code y_Ch_partCell b_Ch_partCell 3 (some .int) ∈ TB := ⟨⟨(tb_of 487 (by decide +kernel) (by decide +kernel)), (tb_of 14 (by decide +kernel) (by decide +kernel))⟩, (tb_of 64 (by decide +kernel) (by decide +kernel)), k_Ch_partCell⟩
theorem ml_Ch_168 : Cond.methodLink R_Ch 168 ⟨"RuleTrees$Ways", "times", "(II)I"⟩ ∈ TB := tb_of 493 (by decide +kernel) (by decide +kernel)
theorem u_Wy_times : Cond.static y_Wy_times ∈ TB ∧ Cond.initialized y_Wy_times.cls ∈ TB ∧ Cond.code y_Wy_times b_Wy_times 2 (some .int) ∈ TB := ⟨(tb_of 494 (by decide +kernel) (by decide +kernel)), (tb_of 71 (by decide +kernel) (by decide +kernel)), k_Wy_times⟩
theorem ml_Ch_162 : Cond.methodLink R_Ch 162 ⟨"RuleTrees$Grammar", "slotsOfCode", "(I)I"⟩ ∈ TB := tb_of 484 (by decide +kernel) (by decide +kernel)
abbrev rm_Ch_addTrees : Room := { frames := 3, cells := 0, slots := 0, locals := 74 }
def f_Ch_addTrees_41 (N : Nat) (kb : (Nat → Nat → Int32) → Int32 → Int32 → Option ((Nat → Nat → Int32) × (Nat → Nat → Int32))) (kx91 : (Nat → Nat → Int32) → Int32 → Option ((Nat → Nat → Int32) × (Nat → Nat → Int32))) (s_self s_grammar s_table : Nat → Nat → Int32) (v1 v4 v5 v6 v7 : Int32) : Option ((Nat → Nat → Int32) × (Nat → Nat → Int32)) :=
  if v5 ≤ v7 then
    kx91 s_table v6
  else
    bd1 (m_Ch_partCell s_self s_grammar v1 v7) fun r_2 =>
    bd1 (m_Ch_waysAt s_self r_2) fun r_4 =>
    bd1 (m_Wy_times v6 r_4) fun r_6 =>
    bd1 (m_Tt_treeOf r_2 0) fun r_8 =>
    bd1 (m_Tt_setDraftPart s_table v7 r_8) fun s_table_10 =>
    nm (v7 + 1) fun v7_12 =>
    kb s_table_10 r_6 v7_12
set_option maxHeartbeats 4000000 in
set_option maxRecDepth 100000 in
theorem t_Ch_addTrees_41 {p : Program} {l : Launch} {e : Env} {s : State} {m : MethodId} {args : Array Value} {below : List Frame} {meth : Method} {c : Code} {A : Nat → Prop} {D : va_G} {K : Nat → ClassId} (a_self a_grammar a_table : Nat → Nat) (X : gx p s m args c b_Ch_addTrees 9 R_Ch w_Ch_addTrees D classes (tyK K) A) (hr : meth.sig.returnType = none) (hlk : meth.locks = false) (N : Nat) (f_self f_table : Nat → Nat → Int32) (s_self s_grammar s_table : Nat → Nat → Int32) (v1 v4 v5 v6 v7 : Int32) (kb : (Nat → Nat → Int32) → Int32 → Int32 → Option ((Nat → Nat → Int32) × (Nat → Nat → Int32))) (hkb : ∀ (s_table : Nat → Nat → Int32) (v6 v7 : Int32), kb s_table v6 v7 = some (f_self, f_table) → Gd p l e rm_Ch_addTrees s m args below meth c 0 0 (MQ below (sq D classes (tyK K) none [wd_Ch K a_self (a_grammar 0) (a_table 0) f_self, wd_Gr K a_grammar s_grammar, wd_Tt K a_table f_table] A) args s 0 0 A) D classes A 9 41 [wd_Ch K a_self (a_grammar 0) (a_table 0) s_self, wd_Gr K a_grammar s_grammar, wd_Tt K a_table s_table] [(0, .ref (a_self 0)), (1, .int v1), (4, .int v4), (5, .int v5), (6, .int v6), (7, .int v7)] []) (kx91 : (Nat → Nat → Int32) → Int32 → Option ((Nat → Nat → Int32) × (Nat → Nat → Int32))) (hkx91 : ∀ (s_table : Nat → Nat → Int32) (v6 : Int32), kx91 s_table v6 = some (f_self, f_table) → Gd p l e rm_Ch_addTrees s m args below meth c 0 0 (MQ below (sq D classes (tyK K) none [wd_Ch K a_self (a_grammar 0) (a_table 0) f_self, wd_Gr K a_grammar s_grammar, wd_Tt K a_table f_table] A) args s 0 0 A) D classes A 9 91 [wd_Ch K a_self (a_grammar 0) (a_table 0) s_self, wd_Gr K a_grammar s_grammar, wd_Tt K a_table s_table] [(0, .ref (a_self 0)), (1, .int v1), (4, .int v4), (5, .int v5), (6, .int v6)] []) (h : f_Ch_addTrees_41 N kb kx91 s_self s_grammar s_table v1 v4 v5 v6 v7 = some (f_self, f_table)) : Gd p l e rm_Ch_addTrees s m args below meth c 0 0 (MQ below (sq D classes (tyK K) none [wd_Ch K a_self (a_grammar 0) (a_table 0) f_self, wd_Gr K a_grammar s_grammar, wd_Tt K a_table f_table] A) args s 0 0 A) D classes A 9 41 [wd_Ch K a_self (a_grammar 0) (a_table 0) s_self, wd_Gr K a_grammar s_grammar, wd_Tt K a_table s_table] [(0, .ref (a_self 0)), (1, .int v1), (4, .int v4), (5, .int v5), (6, .int v6), (7, .int v7)] [] := by
  unfold f_Ch_addTrees_41 at h
  refine gd_iload X d_Ch_addTrees_41 5 rfl ?_
  refine gd_iload X d_Ch_addTrees_43 3 rfl ?_
  refine gd_icmp_ge X (tgt := 91) d_Ch_addTrees_45 (by decide) (fun c_1 => ?_) (fun c_1 => ?_)
  · replace h := it_p c_1 h
    refine gd_loc (lv' := [(0, .ref (a_self 0)), (1, .int v1), (4, .int v4), (5, .int v5), (6, .int v6)]) [0, 1, 2, 3, 4] rfl ?_
    exact hkx91 s_table v6 h
  · replace h := it_n c_1 h
    refine gd_aload_n X d_Ch_addTrees_48 0 rfl ?_
    refine gd_iload_n X d_Ch_addTrees_49 1 rfl ?_
    refine gd_iload X d_Ch_addTrees_50 5 rfl ?_
    obtain ⟨r_2, hc_3, h⟩ := bd1_e h
    refine gd_pI X (gd_V X (As := [.int v1, .int v7]) (rest := []) (c_Ch_partCell l D K a_self a_grammar a_table s_self s_grammar v1 v7 r_2 hc_3) 2 (gi_V ml_Ch_165 u_Ch_partCell) rfl ⟨rfl, rfl⟩ (by decide +kernel) ⟨by decide, by decide⟩ (ci := 3) rfl rfl rfl rfl rfl rfl (Nat.le_of_ble_eq_true rfl) ⟨Nat.zero_le _, Nat.zero_le _⟩ d_Ch_addTrees_52) [0, 1] rfl rfl ?_
    refine gd_istore X (lv' := [(8, .int r_2), (0, .ref (a_self 0)), (1, .int v1), (4, .int v4), (5, .int v5), (6, .int v6), (7, .int v7)]) d_Ch_addTrees_55 (by decide) rfl ?_
    refine gd_iload X d_Ch_addTrees_57 5 rfl ?_
    refine gd_aload_n X d_Ch_addTrees_59 1 rfl ?_
    refine gd_iload X d_Ch_addTrees_60 0 rfl ?_
    obtain ⟨r_4, hc_5, h⟩ := bd1_e h
    refine gd_pI X (gd_V X (As := [.int r_2]) (rest := [.int v6]) (c_Ch_waysAt l D K a_self a_grammar a_table s_self r_2 r_4 hc_5) 1 (gi_V ml_Ch_48 u_Ch_waysAt) rfl ⟨rfl, rfl⟩ (by decide +kernel) ⟨by decide, by decide⟩ (ci := 3) rfl rfl rfl rfl rfl rfl (Nat.le_of_ble_eq_true rfl) ⟨Nat.zero_le _, Nat.zero_le _⟩ d_Ch_addTrees_62) [0] rfl rfl ?_
    obtain ⟨r_6, hc_7, h⟩ := bd1_e h
    refine gd_pI X (gd_Sc X (As := [.int v6, .int r_4]) (rest := []) (c_Wy_times l D K v6 r_4 r_6 hc_7) 2 (gi_S ml_Ch_168 u_Wy_times) rfl ⟨rfl, rfl⟩ (by decide +kernel) ⟨by decide, by decide⟩ rfl rfl (Nat.le_of_ble_eq_true rfl) ⟨Nat.zero_le _, Nat.zero_le _⟩ d_Ch_addTrees_65) [] rfl rfl ?_
    refine gd_istore X (lv' := [(6, .int r_6), (8, .int r_2), (0, .ref (a_self 0)), (1, .int v1), (4, .int v4), (5, .int v5), (7, .int v7)]) d_Ch_addTrees_68 (by decide) rfl ?_
    refine gd_aload_n X d_Ch_addTrees_70 2 rfl ?_
    refine gd_get X (ci := 3) (C := R_Ch) (T := F_Ch) (N := 12) (v := .ref (a_table 0)) 0 0 rfl rfl rfl (in_Ch _) 1 (by decide) (List.mem_cons_of_mem _ fl_Ch_18) rfl rfl d_Ch_addTrees_71 ?_
    refine gd_iload X d_Ch_addTrees_74 6 rfl ?_
    refine gd_iload X d_Ch_addTrees_76 1 rfl ?_
    refine gd_iconst X (v := 0) d_Ch_addTrees_78 (by decide) ?_
    obtain ⟨r_8, hc_9, h⟩ := bd1_e h
    refine gd_pI X (gd_Sc X (As := [.int r_2, .int 0]) (rest := [.int v7, .ref (a_table 0)]) (c_Tt_treeOf l D K r_2 0 r_8 hc_9) 2 (gi_S ml_Ch_52 u_Tt_treeOf) rfl ⟨rfl, rfl⟩ (by decide +kernel) ⟨by decide, by decide⟩ rfl rfl (Nat.le_of_ble_eq_true rfl) ⟨Nat.zero_le _, Nat.zero_le _⟩ d_Ch_addTrees_79) [] rfl rfl ?_
    obtain ⟨s_table_10, hc_11, h⟩ := bd1_e h
    refine gd_cv X (gd_V X (As := [.int v7, .int r_8]) (rest := []) (c_Tt_setDraftPart l D K a_table s_table v7 r_8 s_table_10 hc_11) 2 (gi_V ml_Ch_173 u_Tt_setDraftPart) rfl ⟨rfl, rfl⟩ (by decide +kernel) ⟨by decide, by decide⟩ (ci := 2) rfl rfl rfl rfl rfl rfl (Nat.le_of_ble_eq_true rfl) ⟨Nat.zero_le _, Nat.zero_le _⟩ d_Ch_addTrees_82) (w2 := [wd_Ch K a_self (a_grammar 0) (a_table 0) s_self, wd_Gr K a_grammar s_grammar, wd_Tt K a_table s_table_10]) [2] [0, 1] rfl rfl rfl rfl ⟨rfl, rfl⟩ rfl ?_
    obtain ⟨v7_12, ev7_12, h⟩ := nm_e' h
    refine gd_iinc X (v := v7_12) (lv' := [(7, .int v7_12), (6, .int r_6), (8, .int r_2), (0, .ref (a_self 0)), (1, .int v1), (4, .int v4), (5, .int v5)]) d_Ch_addTrees_85 (k := 6) rfl (by rw [ev7_12]; rfl) (by decide) rfl ?_
    refine gd_goto X (tgt := 41) d_Ch_addTrees_88 (by decide) ?_
    refine gd_loc (lv' := [(0, .ref (a_self 0)), (1, .int v1), (4, .int v4), (5, .int v5), (6, .int r_6), (7, .int v7_12)]) [3, 4, 5, 6, 1, 0] rfl ?_
    exact hkb s_table_10 r_6 v7_12 h
def f_Ch_addTrees_120 (N : Nat) (kb : (Nat → Nat → Int32) → Int32 → Option ((Nat → Nat → Int32) × (Nat → Nat → Int32))) (kx197 : (Nat → Nat → Int32) → Option ((Nat → Nat → Int32) × (Nat → Nat → Int32))) (s_self s_grammar s_table : Nat → Nat → Int32) (v1 v4 v5 v7 : Int32) : Option ((Nat → Nat → Int32) × (Nat → Nat → Int32)) :=
  if v5 ≤ v7 then
    kx197 s_table
  else
    bd1 (m_Ch_partCell s_self s_grammar v1 v7) fun r_2 =>
    bd1 (m_Tt_treeOf r_2 1) fun r_4 =>
    bd1 (m_Tt_sizeAt s_table r_4) fun r_6 =>
    if r_6 ≤ 0 then
      nm (v7 + 1) fun v7_9 =>
      kb s_table v7_9
    else
      bd1 (m_Tt_treeOf r_2 1) fun r_10 =>
      bd1 (m_Tt_setDraftPart s_table v7 r_10) fun s_table_12 =>
      bd1 (m_Tt_offerDraft N s_table_12 v4) fun s_table_14 =>
      bd1 (m_Tt_treeOf r_2 0) fun r_16 =>
      bd1 (m_Tt_setDraftPart s_table_14 v7 r_16) fun s_table_18 =>
      nm (v7 + 1) fun v7_20 =>
      kb s_table_18 v7_20
set_option maxHeartbeats 4000000 in
set_option maxRecDepth 100000 in
theorem t_Ch_addTrees_120 {p : Program} {l : Launch} {e : Env} {s : State} {m : MethodId} {args : Array Value} {below : List Frame} {meth : Method} {c : Code} {A : Nat → Prop} {D : va_G} {K : Nat → ClassId} (a_self a_grammar a_table : Nat → Nat) (X : gx p s m args c b_Ch_addTrees 9 R_Ch w_Ch_addTrees D classes (tyK K) A) (hr : meth.sig.returnType = none) (hlk : meth.locks = false) (N : Nat) (f_self f_table : Nat → Nat → Int32) (s_self s_grammar s_table : Nat → Nat → Int32) (v1 v4 v5 v7 : Int32) (kb : (Nat → Nat → Int32) → Int32 → Option ((Nat → Nat → Int32) × (Nat → Nat → Int32))) (hkb : ∀ (s_table : Nat → Nat → Int32) (v7 : Int32), kb s_table v7 = some (f_self, f_table) → Gd p l e rm_Ch_addTrees s m args below meth c 0 0 (MQ below (sq D classes (tyK K) none [wd_Ch K a_self (a_grammar 0) (a_table 0) f_self, wd_Gr K a_grammar s_grammar, wd_Tt K a_table f_table] A) args s 0 0 A) D classes A 9 120 [wd_Ch K a_self (a_grammar 0) (a_table 0) s_self, wd_Gr K a_grammar s_grammar, wd_Tt K a_table s_table] [(0, .ref (a_self 0)), (1, .int v1), (4, .int v4), (5, .int v5), (7, .int v7)] []) (kx197 : (Nat → Nat → Int32) → Option ((Nat → Nat → Int32) × (Nat → Nat → Int32))) (hkx197 : ∀ (s_table : Nat → Nat → Int32), kx197 s_table = some (f_self, f_table) → Gd p l e rm_Ch_addTrees s m args below meth c 0 0 (MQ below (sq D classes (tyK K) none [wd_Ch K a_self (a_grammar 0) (a_table 0) f_self, wd_Gr K a_grammar s_grammar, wd_Tt K a_table f_table] A) args s 0 0 A) D classes A 9 197 [wd_Ch K a_self (a_grammar 0) (a_table 0) s_self, wd_Gr K a_grammar s_grammar, wd_Tt K a_table s_table] [] []) (h : f_Ch_addTrees_120 N kb kx197 s_self s_grammar s_table v1 v4 v5 v7 = some (f_self, f_table)) : Gd p l e rm_Ch_addTrees s m args below meth c 0 0 (MQ below (sq D classes (tyK K) none [wd_Ch K a_self (a_grammar 0) (a_table 0) f_self, wd_Gr K a_grammar s_grammar, wd_Tt K a_table f_table] A) args s 0 0 A) D classes A 9 120 [wd_Ch K a_self (a_grammar 0) (a_table 0) s_self, wd_Gr K a_grammar s_grammar, wd_Tt K a_table s_table] [(0, .ref (a_self 0)), (1, .int v1), (4, .int v4), (5, .int v5), (7, .int v7)] [] := by
  unfold f_Ch_addTrees_120 at h
  refine gd_iload X d_Ch_addTrees_120 4 rfl ?_
  refine gd_iload X d_Ch_addTrees_122 3 rfl ?_
  refine gd_icmp_ge X (tgt := 197) d_Ch_addTrees_124 (by decide) (fun c_1 => ?_) (fun c_1 => ?_)
  · replace h := it_p c_1 h
    refine gd_loc (lv' := []) [] rfl ?_
    exact hkx197 s_table h
  · replace h := it_n c_1 h
    refine gd_aload_n X d_Ch_addTrees_127 0 rfl ?_
    refine gd_iload_n X d_Ch_addTrees_128 1 rfl ?_
    refine gd_iload X d_Ch_addTrees_129 4 rfl ?_
    obtain ⟨r_2, hc_3, h⟩ := bd1_e h
    refine gd_pI X (gd_V X (As := [.int v1, .int v7]) (rest := []) (c_Ch_partCell l D K a_self a_grammar a_table s_self s_grammar v1 v7 r_2 hc_3) 2 (gi_V ml_Ch_165 u_Ch_partCell) rfl ⟨rfl, rfl⟩ (by decide +kernel) ⟨by decide, by decide⟩ (ci := 3) rfl rfl rfl rfl rfl rfl (Nat.le_of_ble_eq_true rfl) ⟨Nat.zero_le _, Nat.zero_le _⟩ d_Ch_addTrees_131) [0, 1] rfl rfl ?_
    refine gd_istore X (lv' := [(8, .int r_2), (0, .ref (a_self 0)), (1, .int v1), (4, .int v4), (5, .int v5), (7, .int v7)]) d_Ch_addTrees_134 (by decide) rfl ?_
    refine gd_aload_n X d_Ch_addTrees_136 1 rfl ?_
    refine gd_get X (ci := 3) (C := R_Ch) (T := F_Ch) (N := 12) (v := .ref (a_table 0)) 0 0 rfl rfl rfl (in_Ch _) 1 (by decide) (List.mem_cons_of_mem _ fl_Ch_18) rfl rfl d_Ch_addTrees_137 ?_
    refine gd_iload X d_Ch_addTrees_140 0 rfl ?_
    refine gd_iconst X (v := 1) d_Ch_addTrees_142 (by decide) ?_
    obtain ⟨r_4, hc_5, h⟩ := bd1_e h
    refine gd_pI X (gd_Sc X (As := [.int r_2, .int 1]) (rest := [.ref (a_table 0)]) (c_Tt_treeOf l D K r_2 1 r_4 hc_5) 2 (gi_S ml_Ch_52 u_Tt_treeOf) rfl ⟨rfl, rfl⟩ (by decide +kernel) ⟨by decide, by decide⟩ rfl rfl (Nat.le_of_ble_eq_true rfl) ⟨Nat.zero_le _, Nat.zero_le _⟩ d_Ch_addTrees_143) [] rfl rfl ?_
    obtain ⟨r_6, hc_7, h⟩ := bd1_e h
    refine gd_pI X (gd_V X (As := [.int r_4]) (rest := []) (c_Tt_sizeAt l D K a_table s_table r_4 r_6 hc_7) 1 (gi_V ml_Ch_56 u_Tt_sizeAt) rfl ⟨rfl, rfl⟩ (by decide +kernel) ⟨by decide, by decide⟩ (ci := 2) rfl rfl rfl rfl rfl rfl (Nat.le_of_ble_eq_true rfl) ⟨Nat.zero_le _, Nat.zero_le _⟩ d_Ch_addTrees_146) [2] rfl rfl ?_
    refine gd_if_le X (tgt := 191) d_Ch_addTrees_149 (by decide) (fun c_8 => ?_) (fun c_8 => ?_)
    · replace h := it_p c_8 h
      obtain ⟨v7_9, ev7_9, h⟩ := nm_e' h
      refine gd_iinc X (v := v7_9) (lv' := [(7, .int v7_9), (8, .int r_2), (0, .ref (a_self 0)), (1, .int v1), (4, .int v4), (5, .int v5)]) d_Ch_addTrees_191 (k := 5) rfl (by rw [ev7_9]; rfl) (by decide) rfl ?_
      refine gd_goto X (tgt := 120) d_Ch_addTrees_194 (by decide) ?_
      refine gd_loc (lv' := [(0, .ref (a_self 0)), (1, .int v1), (4, .int v4), (5, .int v5), (7, .int v7_9)]) [2, 3, 4, 5, 0] rfl ?_
      exact hkb s_table v7_9 h
    · replace h := it_n c_8 h
      refine gd_aload_n X d_Ch_addTrees_152 1 rfl ?_
      refine gd_get X (ci := 3) (C := R_Ch) (T := F_Ch) (N := 12) (v := .ref (a_table 0)) 0 0 rfl rfl rfl (in_Ch _) 1 (by decide) (List.mem_cons_of_mem _ fl_Ch_18) rfl rfl d_Ch_addTrees_153 ?_
      refine gd_iload X d_Ch_addTrees_156 5 rfl ?_
      refine gd_iload X d_Ch_addTrees_158 0 rfl ?_
      refine gd_iconst X (v := 1) d_Ch_addTrees_160 (by decide) ?_
      obtain ⟨r_10, hc_11, h⟩ := bd1_e h
      refine gd_pI X (gd_Sc X (As := [.int r_2, .int 1]) (rest := [.int v7, .ref (a_table 0)]) (c_Tt_treeOf l D K r_2 1 r_10 hc_11) 2 (gi_S ml_Ch_52 u_Tt_treeOf) rfl ⟨rfl, rfl⟩ (by decide +kernel) ⟨by decide, by decide⟩ rfl rfl (Nat.le_of_ble_eq_true rfl) ⟨Nat.zero_le _, Nat.zero_le _⟩ d_Ch_addTrees_161) [] rfl rfl ?_
      obtain ⟨s_table_12, hc_13, h⟩ := bd1_e h
      refine gd_cv X (gd_V X (As := [.int v7, .int r_10]) (rest := []) (c_Tt_setDraftPart l D K a_table s_table v7 r_10 s_table_12 hc_13) 2 (gi_V ml_Ch_173 u_Tt_setDraftPart) rfl ⟨rfl, rfl⟩ (by decide +kernel) ⟨by decide, by decide⟩ (ci := 2) rfl rfl rfl rfl rfl rfl (Nat.le_of_ble_eq_true rfl) ⟨Nat.zero_le _, Nat.zero_le _⟩ d_Ch_addTrees_164) (w2 := [wd_Ch K a_self (a_grammar 0) (a_table 0) s_self, wd_Gr K a_grammar s_grammar, wd_Tt K a_table s_table_12]) [2] [0, 1] rfl rfl rfl rfl ⟨rfl, rfl⟩ rfl ?_
      refine gd_aload_n X d_Ch_addTrees_167 1 rfl ?_
      refine gd_get X (ci := 3) (C := R_Ch) (T := F_Ch) (N := 12) (v := .ref (a_table 0)) 0 0 rfl rfl rfl (in_Ch _) 1 (by decide) (List.mem_cons_of_mem _ fl_Ch_18) rfl rfl d_Ch_addTrees_168 ?_
      refine gd_iload X d_Ch_addTrees_171 3 rfl ?_
      obtain ⟨s_table_14, hc_15, h⟩ := bd1_e h
      refine gd_cv X (gd_V X (As := [.int v4]) (rest := []) (c_Tt_offerDraft l D K a_table N s_table_12 v4 s_table_14 hc_15) 1 (gi_V ml_Ch_139 u_Tt_offerDraft) rfl ⟨rfl, rfl⟩ (by decide +kernel) ⟨by decide, by decide⟩ (ci := 2) rfl rfl rfl rfl rfl rfl (Nat.le_of_ble_eq_true rfl) ⟨Nat.zero_le _, Nat.zero_le _⟩ d_Ch_addTrees_173) (w2 := [wd_Ch K a_self (a_grammar 0) (a_table 0) s_self, wd_Gr K a_grammar s_grammar, wd_Tt K a_table s_table_14]) [2] [0, 1] rfl rfl rfl rfl ⟨rfl, rfl⟩ rfl ?_
      refine gd_aload_n X d_Ch_addTrees_176 1 rfl ?_
      refine gd_get X (ci := 3) (C := R_Ch) (T := F_Ch) (N := 12) (v := .ref (a_table 0)) 0 0 rfl rfl rfl (in_Ch _) 1 (by decide) (List.mem_cons_of_mem _ fl_Ch_18) rfl rfl d_Ch_addTrees_177 ?_
      refine gd_iload X d_Ch_addTrees_180 5 rfl ?_
      refine gd_iload X d_Ch_addTrees_182 0 rfl ?_
      refine gd_iconst X (v := 0) d_Ch_addTrees_184 (by decide) ?_
      obtain ⟨r_16, hc_17, h⟩ := bd1_e h
      refine gd_pI X (gd_Sc X (As := [.int r_2, .int 0]) (rest := [.int v7, .ref (a_table 0)]) (c_Tt_treeOf l D K r_2 0 r_16 hc_17) 2 (gi_S ml_Ch_52 u_Tt_treeOf) rfl ⟨rfl, rfl⟩ (by decide +kernel) ⟨by decide, by decide⟩ rfl rfl (Nat.le_of_ble_eq_true rfl) ⟨Nat.zero_le _, Nat.zero_le _⟩ d_Ch_addTrees_185) [] rfl rfl ?_
      obtain ⟨s_table_18, hc_19, h⟩ := bd1_e h
      refine gd_cv X (gd_V X (As := [.int v7, .int r_16]) (rest := []) (c_Tt_setDraftPart l D K a_table s_table_14 v7 r_16 s_table_18 hc_19) 2 (gi_V ml_Ch_173 u_Tt_setDraftPart) rfl ⟨rfl, rfl⟩ (by decide +kernel) ⟨by decide, by decide⟩ (ci := 2) rfl rfl rfl rfl rfl rfl (Nat.le_of_ble_eq_true rfl) ⟨Nat.zero_le _, Nat.zero_le _⟩ d_Ch_addTrees_188) (w2 := [wd_Ch K a_self (a_grammar 0) (a_table 0) s_self, wd_Gr K a_grammar s_grammar, wd_Tt K a_table s_table_18]) [2] [0, 1] rfl rfl rfl rfl ⟨rfl, rfl⟩ rfl ?_
      obtain ⟨v7_20, ev7_20, h⟩ := nm_e' h
      refine gd_iinc X (v := v7_20) (lv' := [(7, .int v7_20), (8, .int r_2), (0, .ref (a_self 0)), (1, .int v1), (4, .int v4), (5, .int v5)]) d_Ch_addTrees_191 (k := 5) rfl (by rw [ev7_20]; rfl) (by decide) rfl ?_
      refine gd_goto X (tgt := 120) d_Ch_addTrees_194 (by decide) ?_
      refine gd_loc (lv' := [(0, .ref (a_self 0)), (1, .int v1), (4, .int v4), (5, .int v5), (7, .int v7_20)]) [2, 3, 4, 5, 0] rfl ?_
      exact hkb s_table_18 v7_20 h
def f_Ch_addTrees_197 (N : Nat) (s_self s_grammar s_table : Nat → Nat → Int32) : Option ((Nat → Nat → Int32) × (Nat → Nat → Int32)) :=
  some (s_self, s_table)
set_option maxHeartbeats 4000000 in
set_option maxRecDepth 100000 in
theorem t_Ch_addTrees_197 {p : Program} {l : Launch} {e : Env} {s : State} {m : MethodId} {args : Array Value} {below : List Frame} {meth : Method} {c : Code} {A : Nat → Prop} {D : va_G} {K : Nat → ClassId} (a_self a_grammar a_table : Nat → Nat) (X : gx p s m args c b_Ch_addTrees 9 R_Ch w_Ch_addTrees D classes (tyK K) A) (hr : meth.sig.returnType = none) (hlk : meth.locks = false) (N : Nat) (f_self f_table : Nat → Nat → Int32) (s_self s_grammar s_table : Nat → Nat → Int32) (h : f_Ch_addTrees_197 N s_self s_grammar s_table = some (f_self, f_table)) : Gd p l e rm_Ch_addTrees s m args below meth c 0 0 (MQ below (sq D classes (tyK K) none [wd_Ch K a_self (a_grammar 0) (a_table 0) f_self, wd_Gr K a_grammar s_grammar, wd_Tt K a_table f_table] A) args s 0 0 A) D classes A 9 197 [wd_Ch K a_self (a_grammar 0) (a_table 0) s_self, wd_Gr K a_grammar s_grammar, wd_Tt K a_table s_table] [] [] := by
  unfold f_Ch_addTrees_197 at h
  cases h
  exact gd_vret X hr hlk d_Ch_addTrees_197
def l_Ch_addTrees_120 (N : Nat) (s_self s_grammar : Nat → Nat → Int32) (v1 v4 v5 : Int32) (kx197 : (Nat → Nat → Int32) → Option ((Nat → Nat → Int32) × (Nat → Nat → Int32))) : Nat → (Nat → Nat → Int32) → Int32 → Option ((Nat → Nat → Int32) × (Nat → Nat → Int32))
  | 0, _, _ => none
  | n + 1, s_table, v7 => f_Ch_addTrees_120 N (l_Ch_addTrees_120 N s_self s_grammar v1 v4 v5 kx197 n) kx197 s_self s_grammar s_table v1 v4 v5 v7
set_option maxHeartbeats 4000000 in
set_option maxRecDepth 100000 in
theorem tl_Ch_addTrees_120 {p : Program} {l : Launch} {e : Env} {s : State} {m : MethodId} {args : Array Value} {below : List Frame} {meth : Method} {c : Code} {A : Nat → Prop} {D : va_G} {K : Nat → ClassId} (a_self a_grammar a_table : Nat → Nat) (X : gx p s m args c b_Ch_addTrees 9 R_Ch w_Ch_addTrees D classes (tyK K) A) (hr : meth.sig.returnType = none) (hlk : meth.locks = false) (N : Nat) (f_self f_table : Nat → Nat → Int32) (s_self s_grammar : Nat → Nat → Int32) (v1 v4 v5 : Int32) (kx197 : (Nat → Nat → Int32) → Option ((Nat → Nat → Int32) × (Nat → Nat → Int32))) (hkx197 : ∀ (s_table : Nat → Nat → Int32), kx197 s_table = some (f_self, f_table) → Gd p l e rm_Ch_addTrees s m args below meth c 0 0 (MQ below (sq D classes (tyK K) none [wd_Ch K a_self (a_grammar 0) (a_table 0) f_self, wd_Gr K a_grammar s_grammar, wd_Tt K a_table f_table] A) args s 0 0 A) D classes A 9 197 [wd_Ch K a_self (a_grammar 0) (a_table 0) s_self, wd_Gr K a_grammar s_grammar, wd_Tt K a_table s_table] [] []) : ∀ (n : Nat) (s_table : Nat → Nat → Int32) (v7 : Int32), l_Ch_addTrees_120 N s_self s_grammar v1 v4 v5 kx197 n s_table v7 = some (f_self, f_table) → Gd p l e rm_Ch_addTrees s m args below meth c 0 0 (MQ below (sq D classes (tyK K) none [wd_Ch K a_self (a_grammar 0) (a_table 0) f_self, wd_Gr K a_grammar s_grammar, wd_Tt K a_table f_table] A) args s 0 0 A) D classes A 9 120 [wd_Ch K a_self (a_grammar 0) (a_table 0) s_self, wd_Gr K a_grammar s_grammar, wd_Tt K a_table s_table] [(0, .ref (a_self 0)), (1, .int v1), (4, .int v4), (5, .int v5), (7, .int v7)] [] := by
  intro n
  induction n with
  | zero => intro s_table v7 h; have h : (none : Option ((Nat → Nat → Int32) × (Nat → Nat → Int32))) = some _ := h; cases h
  | succ n ih =>
    intro s_table v7 h
    exact t_Ch_addTrees_120 a_self a_grammar a_table X hr hlk N f_self f_table s_self s_grammar s_table v1 v4 v5 v7 (l_Ch_addTrees_120 N s_self s_grammar v1 v4 v5 kx197 n) ih kx197 hkx197 h
def f_Ch_addTrees_91 (N : Nat) (s_self s_grammar s_table : Nat → Nat → Int32) (v1 v4 v5 v6 : Int32) : Option ((Nat → Nat → Int32) × (Nat → Nat → Int32)) :=
  bd1 (m_Ch_waysAt s_self v4) fun r_1 =>
  bd1 (m_Wy_plus r_1 v6) fun r_3 =>
  bd1 (m_Ch_setWays s_self v4 r_3) fun s_self_5 =>
  bd1 (m_Tt_offerDraft N s_table v4) fun s_table_7 =>
  l_Ch_addTrees_120 N s_self_5 s_grammar v1 v4 v5 (fun s_table => f_Ch_addTrees_197 N s_self_5 s_grammar s_table) N s_table_7 0
set_option maxHeartbeats 4000000 in
set_option maxRecDepth 100000 in
theorem t_Ch_addTrees_91 {p : Program} {l : Launch} {e : Env} {s : State} {m : MethodId} {args : Array Value} {below : List Frame} {meth : Method} {c : Code} {A : Nat → Prop} {D : va_G} {K : Nat → ClassId} (a_self a_grammar a_table : Nat → Nat) (X : gx p s m args c b_Ch_addTrees 9 R_Ch w_Ch_addTrees D classes (tyK K) A) (hr : meth.sig.returnType = none) (hlk : meth.locks = false) (N : Nat) (f_self f_table : Nat → Nat → Int32) (s_self s_grammar s_table : Nat → Nat → Int32) (v1 v4 v5 v6 : Int32) (h : f_Ch_addTrees_91 N s_self s_grammar s_table v1 v4 v5 v6 = some (f_self, f_table)) : Gd p l e rm_Ch_addTrees s m args below meth c 0 0 (MQ below (sq D classes (tyK K) none [wd_Ch K a_self (a_grammar 0) (a_table 0) f_self, wd_Gr K a_grammar s_grammar, wd_Tt K a_table f_table] A) args s 0 0 A) D classes A 9 91 [wd_Ch K a_self (a_grammar 0) (a_table 0) s_self, wd_Gr K a_grammar s_grammar, wd_Tt K a_table s_table] [(0, .ref (a_self 0)), (1, .int v1), (4, .int v4), (5, .int v5), (6, .int v6)] [] := by
  unfold f_Ch_addTrees_91 at h
  refine gd_aload_n X d_Ch_addTrees_91 0 rfl ?_
  refine gd_iload X d_Ch_addTrees_92 2 rfl ?_
  refine gd_aload_n X d_Ch_addTrees_94 0 rfl ?_
  refine gd_iload X d_Ch_addTrees_95 2 rfl ?_
  obtain ⟨r_1, hc_2, h⟩ := bd1_e h
  refine gd_pI X (gd_V X (As := [.int v4]) (rest := [.int v4, .ref (a_self 0)]) (c_Ch_waysAt l D K a_self a_grammar a_table s_self v4 r_1 hc_2) 1 (gi_V ml_Ch_48 u_Ch_waysAt) rfl ⟨rfl, rfl⟩ (by decide +kernel) ⟨by decide, by decide⟩ (ci := 3) rfl rfl rfl rfl rfl rfl (Nat.le_of_ble_eq_true rfl) ⟨Nat.zero_le _, Nat.zero_le _⟩ d_Ch_addTrees_97) [0] rfl rfl ?_
  refine gd_iload X d_Ch_addTrees_100 4 rfl ?_
  obtain ⟨r_3, hc_4, h⟩ := bd1_e h
  refine gd_pI X (gd_Sc X (As := [.int r_1, .int v6]) (rest := [.int v4, .ref (a_self 0)]) (c_Wy_plus l D K r_1 v6 r_3 hc_4) 2 (gi_S ml_Ch_176 u_Wy_plus) rfl ⟨rfl, rfl⟩ (by decide +kernel) ⟨by decide, by decide⟩ rfl rfl (Nat.le_of_ble_eq_true rfl) ⟨Nat.zero_le _, Nat.zero_le _⟩ d_Ch_addTrees_102) [] rfl rfl ?_
  obtain ⟨s_self_5, hc_6, h⟩ := bd1_e h
  refine gd_cv X (gd_V X (As := [.int v4, .int r_3]) (rest := []) (c_Ch_setWays l D K a_self a_grammar a_table s_self v4 r_3 s_self_5 hc_6) 2 (gi_V ml_Ch_110 u_Ch_setWays) rfl ⟨rfl, rfl⟩ (by decide +kernel) ⟨by decide, by decide⟩ (ci := 3) rfl rfl rfl rfl rfl rfl (Nat.le_of_ble_eq_true rfl) ⟨Nat.zero_le _, Nat.zero_le _⟩ d_Ch_addTrees_105) (w2 := [wd_Ch K a_self (a_grammar 0) (a_table 0) s_self_5, wd_Gr K a_grammar s_grammar, wd_Tt K a_table s_table]) [0] [1, 2] rfl rfl rfl rfl ⟨rfl, rfl⟩ rfl ?_
  refine gd_aload_n X d_Ch_addTrees_108 0 rfl ?_
  refine gd_get X (ci := 3) (C := R_Ch) (T := F_Ch) (N := 12) (v := .ref (a_table 0)) 0 0 rfl rfl rfl (in_Ch _) 1 (by decide) (List.mem_cons_of_mem _ fl_Ch_18) rfl rfl d_Ch_addTrees_109 ?_
  refine gd_iload X d_Ch_addTrees_112 2 rfl ?_
  obtain ⟨s_table_7, hc_8, h⟩ := bd1_e h
  refine gd_cv X (gd_V X (As := [.int v4]) (rest := []) (c_Tt_offerDraft l D K a_table N s_table v4 s_table_7 hc_8) 1 (gi_V ml_Ch_139 u_Tt_offerDraft) rfl ⟨rfl, rfl⟩ (by decide +kernel) ⟨by decide, by decide⟩ (ci := 2) rfl rfl rfl rfl rfl rfl (Nat.le_of_ble_eq_true rfl) ⟨Nat.zero_le _, Nat.zero_le _⟩ d_Ch_addTrees_114) (w2 := [wd_Ch K a_self (a_grammar 0) (a_table 0) s_self_5, wd_Gr K a_grammar s_grammar, wd_Tt K a_table s_table_7]) [2] [0, 1] rfl rfl rfl rfl ⟨rfl, rfl⟩ rfl ?_
  refine gd_iconst X (v := 0) d_Ch_addTrees_117 (by decide) ?_
  refine gd_istore X (lv' := [(7, .int 0), (0, .ref (a_self 0)), (1, .int v1), (4, .int v4), (5, .int v5), (6, .int v6)]) d_Ch_addTrees_118 (by decide) rfl ?_
  refine gd_loc (lv' := [(0, .ref (a_self 0)), (1, .int v1), (4, .int v4), (5, .int v5), (7, .int 0)]) [1, 2, 3, 4, 0] rfl ?_
  exact tl_Ch_addTrees_120 a_self a_grammar a_table X hr hlk N f_self f_table s_self_5 s_grammar v1 v4 v5 (fun s_table => f_Ch_addTrees_197 N s_self_5 s_grammar s_table) (fun s_table h => t_Ch_addTrees_197 a_self a_grammar a_table X hr hlk N f_self f_table s_self_5 s_grammar s_table h) N s_table_7 0 h
def l_Ch_addTrees_41 (N : Nat) (s_self s_grammar : Nat → Nat → Int32) (v1 v4 v5 : Int32) (kx91 : (Nat → Nat → Int32) → Int32 → Option ((Nat → Nat → Int32) × (Nat → Nat → Int32))) : Nat → (Nat → Nat → Int32) → Int32 → Int32 → Option ((Nat → Nat → Int32) × (Nat → Nat → Int32))
  | 0, _, _, _ => none
  | n + 1, s_table, v6, v7 => f_Ch_addTrees_41 N (l_Ch_addTrees_41 N s_self s_grammar v1 v4 v5 kx91 n) kx91 s_self s_grammar s_table v1 v4 v5 v6 v7
set_option maxHeartbeats 4000000 in
set_option maxRecDepth 100000 in
theorem tl_Ch_addTrees_41 {p : Program} {l : Launch} {e : Env} {s : State} {m : MethodId} {args : Array Value} {below : List Frame} {meth : Method} {c : Code} {A : Nat → Prop} {D : va_G} {K : Nat → ClassId} (a_self a_grammar a_table : Nat → Nat) (X : gx p s m args c b_Ch_addTrees 9 R_Ch w_Ch_addTrees D classes (tyK K) A) (hr : meth.sig.returnType = none) (hlk : meth.locks = false) (N : Nat) (f_self f_table : Nat → Nat → Int32) (s_self s_grammar : Nat → Nat → Int32) (v1 v4 v5 : Int32) (kx91 : (Nat → Nat → Int32) → Int32 → Option ((Nat → Nat → Int32) × (Nat → Nat → Int32))) (hkx91 : ∀ (s_table : Nat → Nat → Int32) (v6 : Int32), kx91 s_table v6 = some (f_self, f_table) → Gd p l e rm_Ch_addTrees s m args below meth c 0 0 (MQ below (sq D classes (tyK K) none [wd_Ch K a_self (a_grammar 0) (a_table 0) f_self, wd_Gr K a_grammar s_grammar, wd_Tt K a_table f_table] A) args s 0 0 A) D classes A 9 91 [wd_Ch K a_self (a_grammar 0) (a_table 0) s_self, wd_Gr K a_grammar s_grammar, wd_Tt K a_table s_table] [(0, .ref (a_self 0)), (1, .int v1), (4, .int v4), (5, .int v5), (6, .int v6)] []) : ∀ (n : Nat) (s_table : Nat → Nat → Int32) (v6 v7 : Int32), l_Ch_addTrees_41 N s_self s_grammar v1 v4 v5 kx91 n s_table v6 v7 = some (f_self, f_table) → Gd p l e rm_Ch_addTrees s m args below meth c 0 0 (MQ below (sq D classes (tyK K) none [wd_Ch K a_self (a_grammar 0) (a_table 0) f_self, wd_Gr K a_grammar s_grammar, wd_Tt K a_table f_table] A) args s 0 0 A) D classes A 9 41 [wd_Ch K a_self (a_grammar 0) (a_table 0) s_self, wd_Gr K a_grammar s_grammar, wd_Tt K a_table s_table] [(0, .ref (a_self 0)), (1, .int v1), (4, .int v4), (5, .int v5), (6, .int v6), (7, .int v7)] [] := by
  intro n
  induction n with
  | zero => intro s_table v6 v7 h; have h : (none : Option ((Nat → Nat → Int32) × (Nat → Nat → Int32))) = some _ := h; cases h
  | succ n ih =>
    intro s_table v6 v7 h
    exact t_Ch_addTrees_41 a_self a_grammar a_table X hr hlk N f_self f_table s_self s_grammar s_table v1 v4 v5 v6 v7 (l_Ch_addTrees_41 N s_self s_grammar v1 v4 v5 kx91 n) ih kx91 hkx91 h
def f_Ch_addTrees_0 (N : Nat) (s_self s_grammar s_table : Nat → Nat → Int32) (v1 v2 v3 : Int32) : Option ((Nat → Nat → Int32) × (Nat → Nat → Int32)) :=
  bd1 (m_Gr_sortOfCode s_grammar v1) fun r_1 =>
  bd1 (m_Ch_cellOf r_1 v2 v3) fun r_3 =>
  bd1 (m_Gr_slotsOfCode s_grammar v1) fun r_5 =>
  bd1 (m_Tt_startDraft s_table v1 r_5) fun s_table_7 =>
  l_Ch_addTrees_41 N s_self s_grammar v1 r_3 r_5 (fun s_table v6 => f_Ch_addTrees_91 N s_self s_grammar s_table v1 r_3 r_5 v6) N s_table_7 1 0
set_option maxHeartbeats 4000000 in
set_option maxRecDepth 100000 in
theorem t_Ch_addTrees_0 {p : Program} {l : Launch} {e : Env} {s : State} {m : MethodId} {args : Array Value} {below : List Frame} {meth : Method} {c : Code} {A : Nat → Prop} {D : va_G} {K : Nat → ClassId} (a_self a_grammar a_table : Nat → Nat) (X : gx p s m args c b_Ch_addTrees 9 R_Ch w_Ch_addTrees D classes (tyK K) A) (hr : meth.sig.returnType = none) (hlk : meth.locks = false) (N : Nat) (f_self f_table : Nat → Nat → Int32) (s_self s_grammar s_table : Nat → Nat → Int32) (v1 v2 v3 : Int32) (h : f_Ch_addTrees_0 N s_self s_grammar s_table v1 v2 v3 = some (f_self, f_table)) : Gd p l e rm_Ch_addTrees s m args below meth c 0 0 (MQ below (sq D classes (tyK K) none [wd_Ch K a_self (a_grammar 0) (a_table 0) f_self, wd_Gr K a_grammar s_grammar, wd_Tt K a_table f_table] A) args s 0 0 A) D classes A 9 0 [wd_Ch K a_self (a_grammar 0) (a_table 0) s_self, wd_Gr K a_grammar s_grammar, wd_Tt K a_table s_table] [(0, .ref (a_self 0)), (1, .int v1), (2, .int v2), (3, .int v3)] [] := by
  unfold f_Ch_addTrees_0 at h
  refine gd_aload_n X d_Ch_addTrees_0 0 rfl ?_
  refine gd_get X (ci := 3) (C := R_Ch) (T := F_Ch) (N := 12) (v := .ref (a_grammar 0)) 0 0 rfl rfl rfl (in_Ch _) 0 (by decide) (List.mem_cons_of_mem _ fl_Ch_9) rfl rfl d_Ch_addTrees_1 ?_
  refine gd_iload_n X d_Ch_addTrees_4 1 rfl ?_
  obtain ⟨r_1, hc_2, h⟩ := bd1_e h
  refine gd_pI X (gd_V X (As := [.int v1]) (rest := []) (c_Gr_sortOfCode l D K a_grammar s_grammar v1 r_1 hc_2) 1 (gi_V ml_Ch_97 u_Gr_sortOfCode) rfl ⟨rfl, rfl⟩ (by decide +kernel) ⟨by decide, by decide⟩ (ci := 1) rfl rfl rfl rfl rfl rfl (Nat.le_of_ble_eq_true rfl) ⟨Nat.zero_le _, Nat.zero_le _⟩ d_Ch_addTrees_5) [1] rfl rfl ?_
  refine gd_iload_n X d_Ch_addTrees_8 2 rfl ?_
  refine gd_iload_n X d_Ch_addTrees_9 3 rfl ?_
  obtain ⟨r_3, hc_4, h⟩ := bd1_e h
  refine gd_pI X (gd_Sc X (As := [.int r_1, .int v2, .int v3]) (rest := []) (c_Ch_cellOf l D K r_1 v2 v3 r_3 hc_4) 3 (gi_S ml_Ch_44 u_Ch_cellOf) rfl ⟨rfl, rfl⟩ (by decide +kernel) ⟨by decide, by decide⟩ rfl rfl (Nat.le_of_ble_eq_true rfl) ⟨Nat.zero_le _, Nat.zero_le _⟩ d_Ch_addTrees_10) [] rfl rfl ?_
  refine gd_istore X (lv' := [(4, .int r_3), (0, .ref (a_self 0)), (1, .int v1), (2, .int v2), (3, .int v3)]) d_Ch_addTrees_13 (by decide) rfl ?_
  refine gd_aload_n X d_Ch_addTrees_15 1 rfl ?_
  refine gd_get X (ci := 3) (C := R_Ch) (T := F_Ch) (N := 12) (v := .ref (a_grammar 0)) 0 0 rfl rfl rfl (in_Ch _) 0 (by decide) (List.mem_cons_of_mem _ fl_Ch_9) rfl rfl d_Ch_addTrees_16 ?_
  refine gd_iload_n X d_Ch_addTrees_19 2 rfl ?_
  obtain ⟨r_5, hc_6, h⟩ := bd1_e h
  refine gd_pI X (gd_V X (As := [.int v1]) (rest := []) (c_Gr_slotsOfCode l D K a_grammar s_grammar v1 r_5 hc_6) 1 (gi_V ml_Ch_162 u_Gr_slotsOfCode) rfl ⟨rfl, rfl⟩ (by decide +kernel) ⟨by decide, by decide⟩ (ci := 1) rfl rfl rfl rfl rfl rfl (Nat.le_of_ble_eq_true rfl) ⟨Nat.zero_le _, Nat.zero_le _⟩ d_Ch_addTrees_20) [1] rfl rfl ?_
  refine gd_istore X (lv' := [(5, .int r_5), (4, .int r_3), (0, .ref (a_self 0)), (1, .int v1), (2, .int v2), (3, .int v3)]) d_Ch_addTrees_23 (by decide) rfl ?_
  refine gd_iconst X (v := 1) d_Ch_addTrees_25 (by decide) ?_
  refine gd_istore X (lv' := [(6, .int 1), (5, .int r_5), (4, .int r_3), (0, .ref (a_self 0)), (1, .int v1), (2, .int v2), (3, .int v3)]) d_Ch_addTrees_26 (by decide) rfl ?_
  refine gd_aload_n X d_Ch_addTrees_28 3 rfl ?_
  refine gd_get X (ci := 3) (C := R_Ch) (T := F_Ch) (N := 12) (v := .ref (a_table 0)) 0 0 rfl rfl rfl (in_Ch _) 1 (by decide) (List.mem_cons_of_mem _ fl_Ch_18) rfl rfl d_Ch_addTrees_29 ?_
  refine gd_iload_n X d_Ch_addTrees_32 4 rfl ?_
  refine gd_iload X d_Ch_addTrees_33 1 rfl ?_
  obtain ⟨s_table_7, hc_8, h⟩ := bd1_e h
  refine gd_cv X (gd_V X (As := [.int v1, .int r_5]) (rest := []) (c_Tt_startDraft l D K a_table s_table v1 r_5 s_table_7 hc_8) 2 (gi_V ml_Ch_136 u_Tt_startDraft) rfl ⟨rfl, rfl⟩ (by decide +kernel) ⟨by decide, by decide⟩ (ci := 2) rfl rfl rfl rfl rfl rfl (Nat.le_of_ble_eq_true rfl) ⟨Nat.zero_le _, Nat.zero_le _⟩ d_Ch_addTrees_35) (w2 := [wd_Ch K a_self (a_grammar 0) (a_table 0) s_self, wd_Gr K a_grammar s_grammar, wd_Tt K a_table s_table_7]) [2] [0, 1] rfl rfl rfl rfl ⟨rfl, rfl⟩ rfl ?_
  refine gd_iconst X (v := 0) d_Ch_addTrees_38 (by decide) ?_
  refine gd_istore X (lv' := [(7, .int 0), (6, .int 1), (5, .int r_5), (4, .int r_3), (0, .ref (a_self 0)), (1, .int v1), (2, .int v2), (3, .int v3)]) d_Ch_addTrees_39 (by decide) rfl ?_
  refine gd_loc (lv' := [(0, .ref (a_self 0)), (1, .int v1), (4, .int r_3), (5, .int r_5), (6, .int 1), (7, .int 0)]) [4, 5, 3, 2, 1, 0] rfl ?_
  exact tl_Ch_addTrees_41 a_self a_grammar a_table X hr hlk N f_self f_table s_self s_grammar v1 r_3 r_5 (fun s_table v6 => f_Ch_addTrees_91 N s_self s_grammar s_table v1 r_3 r_5 v6) (fun s_table v6 h => t_Ch_addTrees_91 a_self a_grammar a_table X hr hlk N f_self f_table s_self s_grammar s_table v1 r_3 r_5 v6 h) N s_table_7 1 0 h
def m_Ch_addTrees (N : Nat) (s_self s_grammar s_table : Nat → Nat → Int32) (v1 v2 v3 : Int32) : Option ((Nat → Nat → Int32) × (Nat → Nat → Int32)) := f_Ch_addTrees_0 N s_self s_grammar s_table v1 v2 v3
set_option maxHeartbeats 4000000 in
set_option maxRecDepth 100000 in
theorem c_Ch_addTrees (l : Launch) (D : va_G) (K : Nat → ClassId) (a_self a_grammar a_table : Nat → Nat) (N : Nat) (s_self s_grammar s_table : Nat → Nat → Int32) (v1 v2 v3 : Int32) (f_self f_table : Nat → Nat → Int32) (h : m_Ch_addTrees N s_self s_grammar s_table v1 v2 v3 = some (f_self, f_table)) : SMet l y_Ch_addTrees w_Ch_addTrees rm_Ch_addTrees D classes (tyK K) [.ref (a_self 0), .int v1, .int v2, .int v3] none [wd_Ch K a_self (a_grammar 0) (a_table 0) s_self, wd_Gr K a_grammar s_grammar, wd_Tt K a_table s_table] [wd_Ch K a_self (a_grammar 0) (a_table 0) f_self, wd_Gr K a_grammar s_grammar, wd_Tt K a_table f_table] := by
  refine sm_of R_Ch (by decide) rfl rfl (Nat.le_of_ble_eq_true rfl) ?_
  intro p e s m below meth c A X hr hlk
  refine gd_loc (lv' := [(0, .ref (a_self 0)), (1, .int v1), (2, .int v2), (3, .int v3)]) [0, 1, 2, 3] rfl ?_
  exact t_Ch_addTrees_0 a_self a_grammar a_table X hr hlk N f_self f_table s_self s_grammar s_table v1 v2 v3 h
abbrev b_Ch_hasSameSymbols : ByteArray := prog_2_method_16_code
def y_Ch_hasSameSymbols : MethodName := ⟨R_Ch, "hasSameSymbols", "(III)Z"⟩
def w_Ch_hasSameSymbols : List Cond := .code y_Ch_hasSameSymbols b_Ch_hasSameSymbols 5 (some .boolean) :: TB
theorem k_Ch_hasSameSymbols : Cond.code y_Ch_hasSameSymbols b_Ch_hasSameSymbols 5 (some .boolean) ∈ TB := tb_of 523 (by decide +kernel) (by decide +kernel)
theorem d_Ch_hasSameSymbols_0 : decode b_Ch_hasSameSymbols 0 = .ok (.iconst 0, 1) := by decide +kernel
theorem d_Ch_hasSameSymbols_1 : decode b_Ch_hasSameSymbols 1 = .ok (.istore 4, 2) := by decide +kernel
theorem d_Ch_hasSameSymbols_3 : decode b_Ch_hasSameSymbols 3 = .ok (.iload 4, 2) := by decide +kernel
theorem d_Ch_hasSameSymbols_5 : decode b_Ch_hasSameSymbols 5 = .ok (.iload_n 3, 1) := by decide +kernel
theorem d_Ch_hasSameSymbols_6 : decode b_Ch_hasSameSymbols 6 = .ok (.if_icmp .ge 30, 3) := by decide +kernel
theorem d_Ch_hasSameSymbols_9 : decode b_Ch_hasSameSymbols 9 = .ok (.aload_n 0, 1) := by decide +kernel
theorem d_Ch_hasSameSymbols_10 : decode b_Ch_hasSameSymbols 10 = .ok (.iload_n 1, 1) := by decide +kernel
theorem d_Ch_hasSameSymbols_11 : decode b_Ch_hasSameSymbols 11 = .ok (.iload 4, 2) := by decide +kernel
theorem d_Ch_hasSameSymbols_13 : decode b_Ch_hasSameSymbols 13 = .ok (.iadd, 1) := by decide +kernel
theorem d_Ch_hasSameSymbols_14 : decode b_Ch_hasSameSymbols 14 = .ok (.invokevirtual 133, 3) := by decide +kernel
theorem d_Ch_hasSameSymbols_17 : decode b_Ch_hasSameSymbols 17 = .ok (.aload_n 0, 1) := by decide +kernel
theorem d_Ch_hasSameSymbols_18 : decode b_Ch_hasSameSymbols 18 = .ok (.iload_n 2, 1) := by decide +kernel
theorem d_Ch_hasSameSymbols_19 : decode b_Ch_hasSameSymbols 19 = .ok (.iload 4, 2) := by decide +kernel
theorem d_Ch_hasSameSymbols_21 : decode b_Ch_hasSameSymbols 21 = .ok (.iadd, 1) := by decide +kernel
theorem d_Ch_hasSameSymbols_22 : decode b_Ch_hasSameSymbols 22 = .ok (.invokevirtual 133, 3) := by decide +kernel
theorem d_Ch_hasSameSymbols_25 : decode b_Ch_hasSameSymbols 25 = .ok (.if_icmp .eq 5, 3) := by decide +kernel
theorem d_Ch_hasSameSymbols_28 : decode b_Ch_hasSameSymbols 28 = .ok (.iconst 0, 1) := by decide +kernel
theorem d_Ch_hasSameSymbols_29 : decode b_Ch_hasSameSymbols 29 = .ok (.ireturn, 1) := by decide +kernel
theorem d_Ch_hasSameSymbols_30 : decode b_Ch_hasSameSymbols 30 = .ok (.iinc 4 1, 3) := by decide +kernel
theorem d_Ch_hasSameSymbols_33 : decode b_Ch_hasSameSymbols 33 = .ok (.goto (-30), 3) := by decide +kernel
theorem d_Ch_hasSameSymbols_36 : decode b_Ch_hasSameSymbols 36 = .ok (.iconst 1, 1) := by decide +kernel
theorem d_Ch_hasSameSymbols_37 : decode b_Ch_hasSameSymbols 37 = .ok (.ireturn, 1) := by decide +kernel
abbrev rm_Ch_hasSameSymbols : Room := { frames := 1, cells := 0, slots := 0, locals := 21 }
def f_Ch_hasSameSymbols_3 (N : Nat) (kb : Int32 → Option ((Int32))) (kx28 : Option ((Int32))) (kx36 : Option ((Int32))) (s_self : Nat → Nat → Int32) (v1 v2 v3 v4 : Int32) : Option ((Int32)) :=
  if v3 ≤ v4 then
    kx36
  else
    bd1 (m_Ch_symbolIn s_self (v1 + v4)) fun r_2 =>
    bd1 (m_Ch_symbolIn s_self (v2 + v4)) fun r_4 =>
    if r_2 = r_4 then
      nm (v4 + 1) fun v4_7 =>
      kb v4_7
    else
      kx28
set_option maxHeartbeats 4000000 in
set_option maxRecDepth 100000 in
theorem t_Ch_hasSameSymbols_3 {p : Program} {l : Launch} {e : Env} {s : State} {m : MethodId} {args : Array Value} {below : List Frame} {meth : Method} {c : Code} {A : Nat → Prop} {D : va_G} {K : Nat → ClassId} (a_self a_grammar a_table : Nat → Nat) (X : gx p s m args c b_Ch_hasSameSymbols 5 R_Ch w_Ch_hasSameSymbols D classes (tyK K) A) (hr : meth.sig.returnType = some .boolean) (hlk : meth.locks = false) (N : Nat) (r : Int32) (s_self : Nat → Nat → Int32) (v1 v2 v3 v4 : Int32) (kb : Int32 → Option ((Int32))) (hkb : ∀ (v4 : Int32), kb v4 = some r → Gd p l e rm_Ch_hasSameSymbols s m args below meth c 0 0 (MQ below (sq D classes (tyK K) (some (.int r)) [wd_Ch K a_self (a_grammar 0) (a_table 0) s_self] A) args s 0 0 A) D classes A 5 3 [wd_Ch K a_self (a_grammar 0) (a_table 0) s_self] [(0, .ref (a_self 0)), (1, .int v1), (2, .int v2), (3, .int v3), (4, .int v4)] []) (kx28 : Option ((Int32))) (hkx28 : kx28 = some r → Gd p l e rm_Ch_hasSameSymbols s m args below meth c 0 0 (MQ below (sq D classes (tyK K) (some (.int r)) [wd_Ch K a_self (a_grammar 0) (a_table 0) s_self] A) args s 0 0 A) D classes A 5 28 [wd_Ch K a_self (a_grammar 0) (a_table 0) s_self] [] []) (kx36 : Option ((Int32))) (hkx36 : kx36 = some r → Gd p l e rm_Ch_hasSameSymbols s m args below meth c 0 0 (MQ below (sq D classes (tyK K) (some (.int r)) [wd_Ch K a_self (a_grammar 0) (a_table 0) s_self] A) args s 0 0 A) D classes A 5 36 [wd_Ch K a_self (a_grammar 0) (a_table 0) s_self] [] []) (h : f_Ch_hasSameSymbols_3 N kb kx28 kx36 s_self v1 v2 v3 v4 = some r) : Gd p l e rm_Ch_hasSameSymbols s m args below meth c 0 0 (MQ below (sq D classes (tyK K) (some (.int r)) [wd_Ch K a_self (a_grammar 0) (a_table 0) s_self] A) args s 0 0 A) D classes A 5 3 [wd_Ch K a_self (a_grammar 0) (a_table 0) s_self] [(0, .ref (a_self 0)), (1, .int v1), (2, .int v2), (3, .int v3), (4, .int v4)] [] := by
  unfold f_Ch_hasSameSymbols_3 at h
  refine gd_iload X d_Ch_hasSameSymbols_3 4 rfl ?_
  refine gd_iload_n X d_Ch_hasSameSymbols_5 3 rfl ?_
  refine gd_icmp_ge X (tgt := 36) d_Ch_hasSameSymbols_6 (by decide) (fun c_1 => ?_) (fun c_1 => ?_)
  · replace h := it_p c_1 h
    refine gd_loc (lv' := []) [] rfl ?_
    exact hkx36 h
  · replace h := it_n c_1 h
    refine gd_aload_n X d_Ch_hasSameSymbols_9 0 rfl ?_
    refine gd_iload_n X d_Ch_hasSameSymbols_10 1 rfl ?_
    refine gd_iload X d_Ch_hasSameSymbols_11 4 rfl ?_
    refine gd_iadd X d_Ch_hasSameSymbols_13 ?_
    obtain ⟨r_2, hc_3, h⟩ := bd1_e h
    refine gd_fI X (gd_V X (As := [.int (v1 + v4)]) (rest := []) (c_Ch_symbolIn l D K a_self a_grammar a_table s_self (v1 + v4) r_2 hc_3) 1 (gi_V ml_Ch_133 u_Ch_symbolIn) rfl ⟨rfl, rfl⟩ (by decide +kernel) ⟨by decide, by decide⟩ (ci := 3) rfl rfl rfl rfl rfl rfl (Nat.le_of_ble_eq_true rfl) ⟨Nat.zero_le _, Nat.zero_le _⟩ d_Ch_hasSameSymbols_14) ?_
    refine gd_aload_n X d_Ch_hasSameSymbols_17 0 rfl ?_
    refine gd_iload_n X d_Ch_hasSameSymbols_18 2 rfl ?_
    refine gd_iload X d_Ch_hasSameSymbols_19 4 rfl ?_
    refine gd_iadd X d_Ch_hasSameSymbols_21 ?_
    obtain ⟨r_4, hc_5, h⟩ := bd1_e h
    refine gd_fI X (gd_V X (As := [.int (v2 + v4)]) (rest := [.int r_2]) (c_Ch_symbolIn l D K a_self a_grammar a_table s_self (v2 + v4) r_4 hc_5) 1 (gi_V ml_Ch_133 u_Ch_symbolIn) rfl ⟨rfl, rfl⟩ (by decide +kernel) ⟨by decide, by decide⟩ (ci := 3) rfl rfl rfl rfl rfl rfl (Nat.le_of_ble_eq_true rfl) ⟨Nat.zero_le _, Nat.zero_le _⟩ d_Ch_hasSameSymbols_22) ?_
    refine gd_icmp_eq X (tgt := 30) d_Ch_hasSameSymbols_25 (by decide) (fun c_6 => ?_) (fun c_6 => ?_)
    · replace h := it_p c_6 h
      obtain ⟨v4_7, ev4_7, h⟩ := nm_e' h
      refine gd_iinc X (v := v4_7) (lv' := [(4, .int v4_7), (0, .ref (a_self 0)), (1, .int v1), (2, .int v2), (3, .int v3)]) d_Ch_hasSameSymbols_30 (k := 4) rfl (by rw [ev4_7]; rfl) (by decide) rfl ?_
      refine gd_goto X (tgt := 3) d_Ch_hasSameSymbols_33 (by decide) ?_
      refine gd_loc (lv' := [(0, .ref (a_self 0)), (1, .int v1), (2, .int v2), (3, .int v3), (4, .int v4_7)]) [1, 2, 3, 4, 0] rfl ?_
      exact hkb v4_7 h
    · replace h := it_n c_6 h
      refine gd_loc (lv' := []) [] rfl ?_
      exact hkx28 h
def f_Ch_hasSameSymbols_28 (N : Nat) (s_self : Nat → Nat → Int32) : Option ((Int32)) :=
  some (0)
set_option maxHeartbeats 4000000 in
set_option maxRecDepth 100000 in
theorem t_Ch_hasSameSymbols_28 {p : Program} {l : Launch} {e : Env} {s : State} {m : MethodId} {args : Array Value} {below : List Frame} {meth : Method} {c : Code} {A : Nat → Prop} {D : va_G} {K : Nat → ClassId} (a_self a_grammar a_table : Nat → Nat) (X : gx p s m args c b_Ch_hasSameSymbols 5 R_Ch w_Ch_hasSameSymbols D classes (tyK K) A) (hr : meth.sig.returnType = some .boolean) (hlk : meth.locks = false) (N : Nat) (r : Int32) (s_self : Nat → Nat → Int32) (h : f_Ch_hasSameSymbols_28 N s_self = some r) : Gd p l e rm_Ch_hasSameSymbols s m args below meth c 0 0 (MQ below (sq D classes (tyK K) (some (.int r)) [wd_Ch K a_self (a_grammar 0) (a_table 0) s_self] A) args s 0 0 A) D classes A 5 28 [wd_Ch K a_self (a_grammar 0) (a_table 0) s_self] [] [] := by
  unfold f_Ch_hasSameSymbols_28 at h
  refine gd_iconst X (v := 0) d_Ch_hasSameSymbols_28 (by decide) ?_
  cases h
  exact gd_zret X hr hlk (by decide) d_Ch_hasSameSymbols_29
def f_Ch_hasSameSymbols_36 (N : Nat) (s_self : Nat → Nat → Int32) : Option ((Int32)) :=
  some (1)
set_option maxHeartbeats 4000000 in
set_option maxRecDepth 100000 in
theorem t_Ch_hasSameSymbols_36 {p : Program} {l : Launch} {e : Env} {s : State} {m : MethodId} {args : Array Value} {below : List Frame} {meth : Method} {c : Code} {A : Nat → Prop} {D : va_G} {K : Nat → ClassId} (a_self a_grammar a_table : Nat → Nat) (X : gx p s m args c b_Ch_hasSameSymbols 5 R_Ch w_Ch_hasSameSymbols D classes (tyK K) A) (hr : meth.sig.returnType = some .boolean) (hlk : meth.locks = false) (N : Nat) (r : Int32) (s_self : Nat → Nat → Int32) (h : f_Ch_hasSameSymbols_36 N s_self = some r) : Gd p l e rm_Ch_hasSameSymbols s m args below meth c 0 0 (MQ below (sq D classes (tyK K) (some (.int r)) [wd_Ch K a_self (a_grammar 0) (a_table 0) s_self] A) args s 0 0 A) D classes A 5 36 [wd_Ch K a_self (a_grammar 0) (a_table 0) s_self] [] [] := by
  unfold f_Ch_hasSameSymbols_36 at h
  refine gd_iconst X (v := 1) d_Ch_hasSameSymbols_36 (by decide) ?_
  cases h
  exact gd_zret X hr hlk (by decide) d_Ch_hasSameSymbols_37
def l_Ch_hasSameSymbols_3 (N : Nat) (s_self : Nat → Nat → Int32) (v1 v2 v3 : Int32) (kx28 : Option ((Int32))) (kx36 : Option ((Int32))) : Nat → Int32 → Option ((Int32))
  | 0, _ => none
  | n + 1, v4 => f_Ch_hasSameSymbols_3 N (l_Ch_hasSameSymbols_3 N s_self v1 v2 v3 kx28 kx36 n) kx28 kx36 s_self v1 v2 v3 v4
set_option maxHeartbeats 4000000 in
set_option maxRecDepth 100000 in
theorem tl_Ch_hasSameSymbols_3 {p : Program} {l : Launch} {e : Env} {s : State} {m : MethodId} {args : Array Value} {below : List Frame} {meth : Method} {c : Code} {A : Nat → Prop} {D : va_G} {K : Nat → ClassId} (a_self a_grammar a_table : Nat → Nat) (X : gx p s m args c b_Ch_hasSameSymbols 5 R_Ch w_Ch_hasSameSymbols D classes (tyK K) A) (hr : meth.sig.returnType = some .boolean) (hlk : meth.locks = false) (N : Nat) (r : Int32) (s_self : Nat → Nat → Int32) (v1 v2 v3 : Int32) (kx28 : Option ((Int32))) (hkx28 : kx28 = some r → Gd p l e rm_Ch_hasSameSymbols s m args below meth c 0 0 (MQ below (sq D classes (tyK K) (some (.int r)) [wd_Ch K a_self (a_grammar 0) (a_table 0) s_self] A) args s 0 0 A) D classes A 5 28 [wd_Ch K a_self (a_grammar 0) (a_table 0) s_self] [] []) (kx36 : Option ((Int32))) (hkx36 : kx36 = some r → Gd p l e rm_Ch_hasSameSymbols s m args below meth c 0 0 (MQ below (sq D classes (tyK K) (some (.int r)) [wd_Ch K a_self (a_grammar 0) (a_table 0) s_self] A) args s 0 0 A) D classes A 5 36 [wd_Ch K a_self (a_grammar 0) (a_table 0) s_self] [] []) : ∀ (n : Nat) (v4 : Int32), l_Ch_hasSameSymbols_3 N s_self v1 v2 v3 kx28 kx36 n v4 = some r → Gd p l e rm_Ch_hasSameSymbols s m args below meth c 0 0 (MQ below (sq D classes (tyK K) (some (.int r)) [wd_Ch K a_self (a_grammar 0) (a_table 0) s_self] A) args s 0 0 A) D classes A 5 3 [wd_Ch K a_self (a_grammar 0) (a_table 0) s_self] [(0, .ref (a_self 0)), (1, .int v1), (2, .int v2), (3, .int v3), (4, .int v4)] [] := by
  intro n
  induction n with
  | zero => intro v4 h; have h : (none : Option ((Int32))) = some _ := h; cases h
  | succ n ih =>
    intro v4 h
    exact t_Ch_hasSameSymbols_3 a_self a_grammar a_table X hr hlk N r s_self v1 v2 v3 v4 (l_Ch_hasSameSymbols_3 N s_self v1 v2 v3 kx28 kx36 n) ih kx28 hkx28 kx36 hkx36 h
def f_Ch_hasSameSymbols_0 (N : Nat) (s_self : Nat → Nat → Int32) (v1 v2 v3 : Int32) : Option ((Int32)) :=
  l_Ch_hasSameSymbols_3 N s_self v1 v2 v3 (f_Ch_hasSameSymbols_28 N s_self) (f_Ch_hasSameSymbols_36 N s_self) N 0
set_option maxHeartbeats 4000000 in
set_option maxRecDepth 100000 in
theorem t_Ch_hasSameSymbols_0 {p : Program} {l : Launch} {e : Env} {s : State} {m : MethodId} {args : Array Value} {below : List Frame} {meth : Method} {c : Code} {A : Nat → Prop} {D : va_G} {K : Nat → ClassId} (a_self a_grammar a_table : Nat → Nat) (X : gx p s m args c b_Ch_hasSameSymbols 5 R_Ch w_Ch_hasSameSymbols D classes (tyK K) A) (hr : meth.sig.returnType = some .boolean) (hlk : meth.locks = false) (N : Nat) (r : Int32) (s_self : Nat → Nat → Int32) (v1 v2 v3 : Int32) (h : f_Ch_hasSameSymbols_0 N s_self v1 v2 v3 = some r) : Gd p l e rm_Ch_hasSameSymbols s m args below meth c 0 0 (MQ below (sq D classes (tyK K) (some (.int r)) [wd_Ch K a_self (a_grammar 0) (a_table 0) s_self] A) args s 0 0 A) D classes A 5 0 [wd_Ch K a_self (a_grammar 0) (a_table 0) s_self] [(0, .ref (a_self 0)), (1, .int v1), (2, .int v2), (3, .int v3)] [] := by
  unfold f_Ch_hasSameSymbols_0 at h
  refine gd_iconst X (v := 0) d_Ch_hasSameSymbols_0 (by decide) ?_
  refine gd_istore X (lv' := [(4, .int 0), (0, .ref (a_self 0)), (1, .int v1), (2, .int v2), (3, .int v3)]) d_Ch_hasSameSymbols_1 (by decide) rfl ?_
  refine gd_loc (lv' := [(0, .ref (a_self 0)), (1, .int v1), (2, .int v2), (3, .int v3), (4, .int 0)]) [1, 2, 3, 4, 0] rfl ?_
  exact tl_Ch_hasSameSymbols_3 a_self a_grammar a_table X hr hlk N r s_self v1 v2 v3 (f_Ch_hasSameSymbols_28 N s_self) (fun h => t_Ch_hasSameSymbols_28 a_self a_grammar a_table X hr hlk N r s_self h) (f_Ch_hasSameSymbols_36 N s_self) (fun h => t_Ch_hasSameSymbols_36 a_self a_grammar a_table X hr hlk N r s_self h) N 0 h
def m_Ch_hasSameSymbols (N : Nat) (s_self : Nat → Nat → Int32) (v1 v2 v3 : Int32) : Option ((Int32)) := f_Ch_hasSameSymbols_0 N s_self v1 v2 v3
set_option maxHeartbeats 4000000 in
set_option maxRecDepth 100000 in
theorem c_Ch_hasSameSymbols (l : Launch) (D : va_G) (K : Nat → ClassId) (a_self a_grammar a_table : Nat → Nat) (N : Nat) (s_self : Nat → Nat → Int32) (v1 v2 v3 : Int32) (r : Int32) (h : m_Ch_hasSameSymbols N s_self v1 v2 v3 = some r) : SMet l y_Ch_hasSameSymbols w_Ch_hasSameSymbols rm_Ch_hasSameSymbols D classes (tyK K) [.ref (a_self 0), .int v1, .int v2, .int v3] (some (.int r)) [wd_Ch K a_self (a_grammar 0) (a_table 0) s_self] [wd_Ch K a_self (a_grammar 0) (a_table 0) s_self] := by
  refine sm_of R_Ch (by decide) rfl rfl (Nat.le_of_ble_eq_true rfl) ?_
  intro p e s m below meth c A X hr hlk
  refine gd_loc (lv' := [(0, .ref (a_self 0)), (1, .int v1), (2, .int v2), (3, .int v3)]) [0, 1, 2, 3] rfl ?_
  exact t_Ch_hasSameSymbols_0 a_self a_grammar a_table X hr hlk N r s_self v1 v2 v3 h
