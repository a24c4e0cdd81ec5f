abbrev b_Rt_isSound : ByteArray := prog_1_method_23_code
def y_Rt_isSound : MethodName := ⟨R_Rt, "isSound", "(I)Z"⟩
def w_Rt_isSound : List Cond := .code y_Rt_isSound b_Rt_isSound 5 (some .boolean) :: TB
theorem k_Rt_isSound : Cond.code y_Rt_isSound b_Rt_isSound 5 (some .boolean) ∈ TB := tb_of 695 (by decide +kernel) (by decide +kernel)
theorem d_Rt_isSound_0 : decode b_Rt_isSound 0 = .ok (.aload_n 0, 1) := by decide +kernel
theorem d_Rt_isSound_1 : decode b_Rt_isSound 1 = .ok (.getfield 44, 3) := by decide +kernel
theorem d_Rt_isSound_4 : decode b_Rt_isSound 4 = .ok (.getfield 85, 3) := by decide +kernel
theorem d_Rt_isSound_7 : decode b_Rt_isSound 7 = .ok (.ifCond .ne 5, 3) := by decide +kernel
theorem d_Rt_isSound_10 : decode b_Rt_isSound 10 = .ok (.iconst 1, 1) := by decide +kernel
theorem d_Rt_isSound_11 : decode b_Rt_isSound 11 = .ok (.ireturn, 1) := by decide +kernel
theorem d_Rt_isSound_12 : decode b_Rt_isSound 12 = .ok (.aload_n 0, 1) := by decide +kernel
theorem d_Rt_isSound_13 : decode b_Rt_isSound 13 = .ok (.getfield 21, 3) := by decide +kernel
theorem d_Rt_isSound_16 : decode b_Rt_isSound 16 = .ok (.iload_n 1, 1) := by decide +kernel
theorem d_Rt_isSound_17 : decode b_Rt_isSound 17 = .ok (.iconst 0, 1) := by decide +kernel
theorem d_Rt_isSound_18 : decode b_Rt_isSound 18 = .ok (.aload_n 0, 1) := by decide +kernel
theorem d_Rt_isSound_19 : decode b_Rt_isSound 19 = .ok (.getfield 44, 3) := by decide +kernel
theorem d_Rt_isSound_22 : decode b_Rt_isSound 22 = .ok (.getfield 85, 3) := by decide +kernel
theorem d_Rt_isSound_25 : decode b_Rt_isSound 25 = .ok (.invokevirtual 98, 3) := by decide +kernel
theorem d_Rt_isSound_28 : decode b_Rt_isSound 28 = .ok (.istore_n 2, 1) := by decide +kernel
theorem d_Rt_isSound_29 : decode b_Rt_isSound 29 = .ok (.aload_n 0, 1) := by decide +kernel
theorem d_Rt_isSound_30 : decode b_Rt_isSound 30 = .ok (.getfield 21, 3) := by decide +kernel
theorem d_Rt_isSound_33 : decode b_Rt_isSound 33 = .ok (.iload_n 1, 1) := by decide +kernel
theorem d_Rt_isSound_34 : decode b_Rt_isSound 34 = .ok (.iconst 0, 1) := by decide +kernel
theorem d_Rt_isSound_35 : decode b_Rt_isSound 35 = .ok (.aload_n 0, 1) := by decide +kernel
theorem d_Rt_isSound_36 : decode b_Rt_isSound 36 = .ok (.getfield 44, 3) := by decide +kernel
theorem d_Rt_isSound_39 : decode b_Rt_isSound 39 = .ok (.getfield 85, 3) := by decide +kernel
theorem d_Rt_isSound_42 : decode b_Rt_isSound 42 = .ok (.aload_n 0, 1) := by decide +kernel
theorem d_Rt_isSound_43 : decode b_Rt_isSound 43 = .ok (.getfield 51, 3) := by decide +kernel
theorem d_Rt_isSound_46 : decode b_Rt_isSound 46 = .ok (.invokevirtual 113, 3) := by decide +kernel
theorem d_Rt_isSound_49 : decode b_Rt_isSound 49 = .ok (.aload_n 0, 1) := by decide +kernel
theorem d_Rt_isSound_50 : decode b_Rt_isSound 50 = .ok (.getfield 21, 3) := by decide +kernel
theorem d_Rt_isSound_53 : decode b_Rt_isSound 53 = .ok (.iload_n 1, 1) := by decide +kernel
theorem d_Rt_isSound_54 : decode b_Rt_isSound 54 = .ok (.iconst 1, 1) := by decide +kernel
theorem d_Rt_isSound_55 : decode b_Rt_isSound 55 = .ok (.aload_n 0, 1) := by decide +kernel
theorem d_Rt_isSound_56 : decode b_Rt_isSound 56 = .ok (.getfield 44, 3) := by decide +kernel
theorem d_Rt_isSound_59 : decode b_Rt_isSound 59 = .ok (.getfield 85, 3) := by decide +kernel
theorem d_Rt_isSound_62 : decode b_Rt_isSound 62 = .ok (.aload_n 0, 1) := by decide +kernel
theorem d_Rt_isSound_63 : decode b_Rt_isSound 63 = .ok (.getfield 54, 3) := by decide +kernel
theorem d_Rt_isSound_66 : decode b_Rt_isSound 66 = .ok (.invokevirtual 113, 3) := by decide +kernel
theorem d_Rt_isSound_69 : decode b_Rt_isSound 69 = .ok (.aload_n 0, 1) := by decide +kernel
theorem d_Rt_isSound_70 : decode b_Rt_isSound 70 = .ok (.getfield 51, 3) := by decide +kernel
theorem d_Rt_isSound_73 : decode b_Rt_isSound 73 = .ok (.getfield 85, 3) := by decide +kernel
theorem d_Rt_isSound_76 : decode b_Rt_isSound 76 = .ok (.ifCond .le 7, 3) := by decide +kernel
theorem d_Rt_isSound_79 : decode b_Rt_isSound 79 = .ok (.iconst 1, 1) := by decide +kernel
theorem d_Rt_isSound_80 : decode b_Rt_isSound 80 = .ok (.goto 4, 3) := by decide +kernel
theorem d_Rt_isSound_83 : decode b_Rt_isSound 83 = .ok (.iconst 0, 1) := by decide +kernel
theorem d_Rt_isSound_84 : decode b_Rt_isSound 84 = .ok (.istore_n 3, 1) := by decide +kernel
theorem d_Rt_isSound_85 : decode b_Rt_isSound 85 = .ok (.aload_n 0, 1) := by decide +kernel
theorem d_Rt_isSound_86 : decode b_Rt_isSound 86 = .ok (.getfield 54, 3) := by decide +kernel
theorem d_Rt_isSound_89 : decode b_Rt_isSound 89 = .ok (.getfield 85, 3) := by decide +kernel
theorem d_Rt_isSound_92 : decode b_Rt_isSound 92 = .ok (.ifCond .le 7, 3) := by decide +kernel
theorem d_Rt_isSound_95 : decode b_Rt_isSound 95 = .ok (.iconst 1, 1) := by decide +kernel
theorem d_Rt_isSound_96 : decode b_Rt_isSound 96 = .ok (.goto 4, 3) := by decide +kernel
theorem d_Rt_isSound_99 : decode b_Rt_isSound 99 = .ok (.iconst 0, 1) := by decide +kernel
theorem d_Rt_isSound_100 : decode b_Rt_isSound 100 = .ok (.istore 4, 2) := by decide +kernel
theorem d_Rt_isSound_102 : decode b_Rt_isSound 102 = .ok (.iload_n 3, 1) := by decide +kernel
theorem d_Rt_isSound_103 : decode b_Rt_isSound 103 = .ok (.iload_n 2, 1) := by decide +kernel
theorem d_Rt_isSound_104 : decode b_Rt_isSound 104 = .ok (.ifCond .le 7, 3) := by decide +kernel
theorem d_Rt_isSound_107 : decode b_Rt_isSound 107 = .ok (.iconst 1, 1) := by decide +kernel
theorem d_Rt_isSound_108 : decode b_Rt_isSound 108 = .ok (.goto 4, 3) := by decide +kernel
theorem d_Rt_isSound_111 : decode b_Rt_isSound 111 = .ok (.iconst 0, 1) := by decide +kernel
theorem d_Rt_isSound_112 : decode b_Rt_isSound 112 = .ok (.if_icmp .ne 18, 3) := by decide +kernel
theorem d_Rt_isSound_115 : decode b_Rt_isSound 115 = .ok (.iload 4, 2) := by decide +kernel
theorem d_Rt_isSound_117 : decode b_Rt_isSound 117 = .ok (.iload_n 2, 1) := by decide +kernel
theorem d_Rt_isSound_118 : decode b_Rt_isSound 118 = .ok (.iconst 1, 1) := by decide +kernel
theorem d_Rt_isSound_119 : decode b_Rt_isSound 119 = .ok (.if_icmp .le 7, 3) := by decide +kernel
theorem d_Rt_isSound_122 : decode b_Rt_isSound 122 = .ok (.iconst 1, 1) := by decide +kernel
theorem d_Rt_isSound_123 : decode b_Rt_isSound 123 = .ok (.goto 4, 3) := by decide +kernel
theorem d_Rt_isSound_126 : decode b_Rt_isSound 126 = .ok (.iconst 0, 1) := by decide +kernel
theorem d_Rt_isSound_127 : decode b_Rt_isSound 127 = .ok (.if_icmp .eq 5, 3) := by decide +kernel
theorem d_Rt_isSound_130 : decode b_Rt_isSound 130 = .ok (.iconst 0, 1) := by decide +kernel
theorem d_Rt_isSound_131 : decode b_Rt_isSound 131 = .ok (.ireturn, 1) := by decide +kernel
theorem d_Rt_isSound_132 : decode b_Rt_isSound 132 = .ok (.iload_n 3, 1) := by decide +kernel
theorem d_Rt_isSound_133 : decode b_Rt_isSound 133 = .ok (.ifCond .eq 17, 3) := by decide +kernel
theorem d_Rt_isSound_136 : decode b_Rt_isSound 136 = .ok (.aload_n 0, 1) := by decide +kernel
theorem d_Rt_isSound_137 : decode b_Rt_isSound 137 = .ok (.aload_n 0, 1) := by decide +kernel
theorem d_Rt_isSound_138 : decode b_Rt_isSound 138 = .ok (.getfield 51, 3) := by decide +kernel
theorem d_Rt_isSound_141 : decode b_Rt_isSound 141 = .ok (.iload_n 1, 1) := by decide +kernel
theorem d_Rt_isSound_142 : decode b_Rt_isSound 142 = .ok (.invokevirtual 170, 3) := by decide +kernel
theorem d_Rt_isSound_145 : decode b_Rt_isSound 145 = .ok (.ifCond .ne 5, 3) := by decide +kernel
theorem d_Rt_isSound_148 : decode b_Rt_isSound 148 = .ok (.iconst 0, 1) := by decide +kernel
theorem d_Rt_isSound_149 : decode b_Rt_isSound 149 = .ok (.ireturn, 1) := by decide +kernel
theorem d_Rt_isSound_150 : decode b_Rt_isSound 150 = .ok (.iload 4, 2) := by decide +kernel
theorem d_Rt_isSound_152 : decode b_Rt_isSound 152 = .ok (.ifCond .eq 29, 3) := by decide +kernel
theorem d_Rt_isSound_155 : decode b_Rt_isSound 155 = .ok (.aload_n 0, 1) := by decide +kernel
theorem d_Rt_isSound_156 : decode b_Rt_isSound 156 = .ok (.aload_n 0, 1) := by decide +kernel
theorem d_Rt_isSound_157 : decode b_Rt_isSound 157 = .ok (.getfield 54, 3) := by decide +kernel
theorem d_Rt_isSound_160 : decode b_Rt_isSound 160 = .ok (.iload_n 1, 1) := by decide +kernel
theorem d_Rt_isSound_161 : decode b_Rt_isSound 161 = .ok (.invokevirtual 170, 3) := by decide +kernel
theorem d_Rt_isSound_164 : decode b_Rt_isSound 164 = .ok (.ifCond .eq 21, 3) := by decide +kernel
theorem d_Rt_isSound_167 : decode b_Rt_isSound 167 = .ok (.aload_n 0, 1) := by decide +kernel
theorem d_Rt_isSound_168 : decode b_Rt_isSound 168 = .ok (.getfield 51, 3) := by decide +kernel
theorem d_Rt_isSound_171 : decode b_Rt_isSound 171 = .ok (.aload_n 0, 1) := by decide +kernel
theorem d_Rt_isSound_172 : decode b_Rt_isSound 172 = .ok (.getfield 54, 3) := by decide +kernel
theorem d_Rt_isSound_175 : decode b_Rt_isSound 175 = .ok (.invokevirtual 174, 3) := by decide +kernel
theorem d_Rt_isSound_178 : decode b_Rt_isSound 178 = .ok (.ifCond .eq 7, 3) := by decide +kernel
theorem d_Rt_isSound_181 : decode b_Rt_isSound 181 = .ok (.iconst 1, 1) := by decide +kernel
theorem d_Rt_isSound_182 : decode b_Rt_isSound 182 = .ok (.goto 4, 3) := by decide +kernel
theorem d_Rt_isSound_185 : decode b_Rt_isSound 185 = .ok (.iconst 0, 1) := by decide +kernel
theorem d_Rt_isSound_186 : decode b_Rt_isSound 186 = .ok (.ireturn, 1) := by decide +kernel
theorem fl_Rt_54 : Cond.fieldLink R_Rt 54 "RuleTrees" "nextCodes" "LRuleTrees$Symbols;" ∈ TB := tb_of 268 (by decide +kernel) (by decide +kernel)
theorem ml_Rt_170 : Cond.methodLink R_Rt 170 ⟨"RuleTrees", "isTreeOfRow", "(LRuleTrees$Symbols;I)Z"⟩ ∈ TB := tb_of 696 (by decide +kernel) (by decide +kernel)
theorem u_Rt_isTreeOfRow : (Cond.instanceMethod y_Rt_isTreeOfRow ∈ TB ∧ Cond.selects R_Rt y_Rt_isTreeOfRow y_Rt_isTreeOfRow ∈ TB) ∧ Cond.initialized R_Rt ∈ TB ∧ Cond.code y_Rt_isTreeOfRow b_Rt_isTreeOfRow 3 (some .boolean) ∈ TB := ⟨⟨(tb_of 698 (by decide +kernel) (by decide +kernel)), (tb_of 33 (by decide +kernel) (by decide +kernel))⟩, (tb_of 62 (by decide +kernel) (by decide +kernel)), k_Rt_isTreeOfRow⟩
theorem ml_Rt_174 : Cond.methodLink R_Rt 174 ⟨"RuleTrees$Symbols", "isLessThan", "(LRuleTrees$Symbols;)Z"⟩ ∈ TB := tb_of 709 (by decide +kernel) (by decide +kernel)
theorem u_Sy_isLessThan : (Cond.instanceMethod y_Sy_isLessThan ∈ TB ∧ Cond.selects R_Sy y_Sy_isLessThan y_Sy_isLessThan ∈ TB) ∧ Cond.initialized R_Sy ∈ TB ∧ Cond.code y_Sy_isLessThan b_Sy_isLessThan 3 (some .boolean) ∈ TB := ⟨⟨(tb_of 710 (by decide +kernel) (by decide +kernel)), (tb_of 711 (by decide +kernel) (by decide +kernel))⟩, (tb_of 67 (by decide +kernel) (by decide +kernel)), k_Sy_isLessThan⟩
abbrev rm_Rt_isSound : Room := { frames := 6, cells := 0, slots := 0, locals := 137 }
def f_Rt_isSound_150 (N : Nat) (n_grown : Nat) (n_joined : Nat) (n_row : Nat) (n_least : Nat) (n_next : Nat) (s_self s_grammar s_chart s_table s_grower s_grown s_joined s_row s_least s_next : Nat → Nat → Int32) (v1 v4 : Int32) : Option ((Int32) × (Nat → Nat → Int32) × (Nat → Nat → Int32) × (Nat → Nat → Int32) × (Nat → Nat → Int32) × (Nat → Nat → Int32) × (Nat → Nat → Int32)) :=
  if v4 = 0 then
    some ((1), s_table, s_grower, s_grown, s_joined, s_least, s_next)
  else
    bd4 (m_Rt_isTreeOfRow N n_grown n_joined n_row n_next s_self s_grammar s_grower s_grown s_joined s_row s_next v1) fun r_2 s_grower_3 s_grown_4 s_joined_5 =>
    if r_2 = 0 then
      some ((0), s_table, s_grower_3, s_grown_4, s_joined_5, s_least, s_next)
    else
      bd1 (m_Sy_isLessThan N n_least n_next s_least s_next) fun r_8 =>
      if r_8 = 0 then
        some ((0), s_table, s_grower_3, s_grown_4, s_joined_5, s_least, s_next)
      else
        some ((1), s_table, s_grower_3, s_grown_4, s_joined_5, s_least, s_next)
set_option maxHeartbeats 4000000 in
set_option maxRecDepth 100000 in
theorem t_Rt_isSound_150 {p : Program} {l : Launch} {e : Env} {s : State} {m : MethodId} {args : Array Value} {below : List Frame} {meth : Method} {c : Code} {A : Nat → Prop} {D : va_G} {K : Nat → ClassId} (a_self a_grammar a_chart a_table a_grower a_grown a_joined a_short a_row a_tape a_least a_next : Nat → Nat) (n_grown : Nat) (n_joined : Nat) (n_row : Nat) (n_least : Nat) (n_next : Nat) (X : gx p s m args c b_Rt_isSound 5 R_Rt w_Rt_isSound D classes (tyK K) A) (hr : meth.sig.returnType = some .boolean) (hlk : meth.locks = false) (N : Nat) (r : Int32) (f_table f_grower f_grown f_joined f_least f_next : Nat → Nat → Int32) (s_self s_grammar s_chart s_table s_grower s_grown s_joined s_row s_least s_next : Nat → Nat → Int32) (v1 v4 : Int32) (h : f_Rt_isSound_150 N n_grown n_joined n_row n_least n_next s_self s_grammar s_chart s_table s_grower s_grown s_joined s_row s_least s_next v1 v4 = some (r, f_table, f_grower, f_grown, f_joined, f_least, f_next)) : Gd p l e rm_Rt_isSound s m args below meth c 0 0 (MQ below (sq D classes (tyK K) (some (.int r)) [wd_Rt K a_self (a_grammar 0) (a_chart 0) (a_grower 0) (a_short 0) (a_row 0) (a_tape 0) (a_least 0) (a_next 0) s_self, wd_Gr K a_grammar s_grammar, wd_Ch K a_chart (a_grammar 0) (a_table 0) s_chart, wd_Tt K a_table f_table, wd_Gw K a_grower (a_grammar 0) (a_grown 0) (a_joined 0) f_grower, wd_Sy K a_grown n_grown f_grown, wd_Sy K a_joined n_joined f_joined, wd_Sy K a_row n_row s_row, wd_Sy K a_least n_least f_least, wd_Sy K a_next n_next f_next] A) args s 0 0 A) D classes A 5 150 [wd_Rt K a_self (a_grammar 0) (a_chart 0) (a_grower 0) (a_short 0) (a_row 0) (a_tape 0) (a_least 0) (a_next 0) s_self, wd_Gr K a_grammar s_grammar, wd_Ch K a_chart (a_grammar 0) (a_table 0) s_chart, wd_Tt K a_table s_table, wd_Gw K a_grower (a_grammar 0) (a_grown 0) (a_joined 0) s_grower, wd_Sy K a_grown n_grown s_grown, wd_Sy K a_joined n_joined s_joined, wd_Sy K a_row n_row s_row, wd_Sy K a_least n_least s_least, wd_Sy K a_next n_next s_next] [(0, .ref (a_self 0)), (1, .int v1), (4, .int v4)] [] := by
  unfold f_Rt_isSound_150 at h
  refine gd_iload X d_Rt_isSound_150 2 rfl ?_
  refine gd_if_eq X (tgt := 181) d_Rt_isSound_152 (by decide) (fun c_1 => ?_) (fun c_1 => ?_)
  · replace h := it_p c_1 h
    refine gd_iconst X (v := 1) d_Rt_isSound_181 (by decide) ?_
    refine gd_goto X (tgt := 186) d_Rt_isSound_182 (by decide) ?_
    cases h
    exact gd_zret X hr hlk (by decide) d_Rt_isSound_186
  · replace h := it_n c_1 h
    refine gd_aload_n X d_Rt_isSound_155 0 rfl ?_
    refine gd_aload_n X d_Rt_isSound_156 0 rfl ?_
    refine gd_get X (ci := 6) (C := R_Rt) (T := F_Rt) (N := 9) (v := .ref (a_next 0)) 0 0 rfl rfl rfl (in_Rt _) 7 (by decide) (List.mem_cons_of_mem _ fl_Rt_54) rfl rfl d_Rt_isSound_157 ?_
    refine gd_iload_n X d_Rt_isSound_160 1 rfl ?_
    obtain ⟨r_2, s_grower_3, s_grown_4, s_joined_5, hc_6, h⟩ := bd4_e h
    refine gd_cI X (gd_V X (As := [.ref (a_next 0), .int v1]) (rest := []) (c_Rt_isTreeOfRow l D K a_self a_grammar a_chart a_grower a_grown a_joined a_short a_row a_tape a_least a_next a_next n_grown n_joined n_row n_next N s_self s_grammar s_grower s_grown s_joined s_row s_next v1 r_2 s_grower_3 s_grown_4 s_joined_5 hc_6) 2 (gi_V ml_Rt_170 u_Rt_isTreeOfRow) rfl ⟨rfl, rfl⟩ (by decide +kernel) ⟨by decide, by decide⟩ (ci := 6) rfl rfl rfl rfl rfl rfl (Nat.le_of_ble_eq_true rfl) ⟨Nat.zero_le _, Nat.zero_le _⟩ d_Rt_isSound_161) (w2 := [wd_Rt K a_self (a_grammar 0) (a_chart 0) (a_grower 0) (a_short 0) (a_row 0) (a_tape 0) (a_least 0) (a_next 0) s_self, wd_Gr K a_grammar s_grammar, wd_Ch K a_chart (a_grammar 0) (a_table 0) s_chart, wd_Tt K a_table s_table, wd_Gw K a_grower (a_grammar 0) (a_grown 0) (a_joined 0) s_grower_3, wd_Sy K a_grown n_grown s_grown_4, wd_Sy K a_joined n_joined s_joined_5, wd_Sy K a_row n_row s_row, wd_Sy K a_least n_least s_least, wd_Sy K a_next n_next s_next]) [0, 1, 4, 5, 6, 7, 9] [2, 3, 8] rfl rfl rfl rfl ⟨rfl, rfl⟩ rfl ?_
    refine gd_if_eq X (tgt := 185) d_Rt_isSound_164 (by decide) (fun c_7 => ?_) (fun c_7 => ?_)
    · replace h := it_p c_7 h
      refine gd_iconst X (v := 0) d_Rt_isSound_185 (by decide) ?_
      cases h
      exact gd_zret X hr hlk (by decide) d_Rt_isSound_186
    · replace h := it_n c_7 h
      refine gd_aload_n X d_Rt_isSound_167 0 rfl ?_
      refine gd_get X (ci := 6) (C := R_Rt) (T := F_Rt) (N := 9) (v := .ref (a_least 0)) 0 0 rfl rfl rfl (in_Rt _) 6 (by decide) (List.mem_cons_of_mem _ fl_Rt_51) rfl rfl d_Rt_isSound_168 ?_
      refine gd_aload_n X d_Rt_isSound_171 0 rfl ?_
      refine gd_get X (ci := 6) (C := R_Rt) (T := F_Rt) (N := 9) (v := .ref (a_next 0)) 0 0 rfl rfl rfl (in_Rt _) 7 (by decide) (List.mem_cons_of_mem _ fl_Rt_54) rfl rfl d_Rt_isSound_172 ?_
      obtain ⟨r_8, hc_9, h⟩ := bd1_e h
      refine gd_pI X (gd_V X (As := [.ref (a_next 0)]) (rest := []) (c_Sy_isLessThan l D K a_least a_next n_least n_next N s_least s_next r_8 hc_9) 1 (gi_V ml_Rt_174 u_Sy_isLessThan) rfl ⟨rfl, rfl⟩ (by decide +kernel) ⟨by decide, by decide⟩ (ci := 0) rfl rfl rfl rfl rfl rfl (Nat.le_of_ble_eq_true rfl) ⟨Nat.zero_le _, Nat.zero_le _⟩ d_Rt_isSound_175) [8, 9] rfl rfl ?_
      refine gd_if_eq X (tgt := 185) d_Rt_isSound_178 (by decide) (fun c_10 => ?_) (fun c_10 => ?_)
      · replace h := it_p c_10 h
        refine gd_iconst X (v := 0) d_Rt_isSound_185 (by decide) ?_
        cases h
        exact gd_zret X hr hlk (by decide) d_Rt_isSound_186
      · replace h := it_n c_10 h
        refine gd_iconst X (v := 1) d_Rt_isSound_181 (by decide) ?_
        refine gd_goto X (tgt := 186) d_Rt_isSound_182 (by decide) ?_
        cases h
        exact gd_zret X hr hlk (by decide) d_Rt_isSound_186
def f_Rt_isSound_127 (N : Nat) (n_grown : Nat) (n_joined : Nat) (n_row : Nat) (n_least : Nat) (n_next : Nat) (s_self s_grammar s_chart s_table s_grower s_grown s_joined s_row s_least s_next : Nat → Nat → Int32) (v1 v3 v4 : Int32) (k0 : Int32) (k1 : Int32) : Option ((Int32) × (Nat → Nat → Int32) × (Nat → Nat → Int32) × (Nat → Nat → Int32) × (Nat → Nat → Int32) × (Nat → Nat → Int32) × (Nat → Nat → Int32)) :=
  if k0 = k1 then
    if v3 = 0 then
      f_Rt_isSound_150 N n_grown n_joined n_row n_least n_next s_self s_grammar s_chart s_table s_grower s_grown s_joined s_row s_least s_next v1 v4
    else
      bd4 (m_Rt_isTreeOfRow N n_grown n_joined n_row n_least s_self s_grammar s_grower s_grown s_joined s_row s_least v1) fun r_3 s_grower_4 s_grown_5 s_joined_6 =>
      if r_3 = 0 then
        some ((0), s_table, s_grower_4, s_grown_5, s_joined_6, s_least, s_next)
      else
        f_Rt_isSound_150 N n_grown n_joined n_row n_least n_next s_self s_grammar s_chart s_table s_grower_4 s_grown_5 s_joined_6 s_row s_least s_next v1 v4
  else
    some ((0), s_table, s_grower, s_grown, s_joined, s_least, s_next)
set_option maxHeartbeats 4000000 in
set_option maxRecDepth 100000 in
theorem t_Rt_isSound_127 {p : Program} {l : Launch} {e : Env} {s : State} {m : MethodId} {args : Array Value} {below : List Frame} {meth : Method} {c : Code} {A : Nat → Prop} {D : va_G} {K : Nat → ClassId} (a_self a_grammar a_chart a_table a_grower a_grown a_joined a_short a_row a_tape a_least a_next : Nat → Nat) (n_grown : Nat) (n_joined : Nat) (n_row : Nat) (n_least : Nat) (n_next : Nat) (X : gx p s m args c b_Rt_isSound 5 R_Rt w_Rt_isSound D classes (tyK K) A) (hr : meth.sig.returnType = some .boolean) (hlk : meth.locks = false) (N : Nat) (r : Int32) (f_table f_grower f_grown f_joined f_least f_next : Nat → Nat → Int32) (s_self s_grammar s_chart s_table s_grower s_grown s_joined s_row s_least s_next : Nat → Nat → Int32) (v1 v3 v4 : Int32) (k0 : Int32) (k1 : Int32) (h : f_Rt_isSound_127 N n_grown n_joined n_row n_least n_next s_self s_grammar s_chart s_table s_grower s_grown s_joined s_row s_least s_next v1 v3 v4 k0 k1 = some (r, f_table, f_grower, f_grown, f_joined, f_least, f_next)) : Gd p l e rm_Rt_isSound s m args below meth c 0 0 (MQ below (sq D classes (tyK K) (some (.int r)) [wd_Rt K a_self (a_grammar 0) (a_chart 0) (a_grower 0) (a_short 0) (a_row 0) (a_tape 0) (a_least 0) (a_next 0) s_self, wd_Gr K a_grammar s_grammar, wd_Ch K a_chart (a_grammar 0) (a_table 0) s_chart, wd_Tt K a_table f_table, wd_Gw K a_grower (a_grammar 0) (a_grown 0) (a_joined 0) f_grower, wd_Sy K a_grown n_grown f_grown, wd_Sy K a_joined n_joined f_joined, wd_Sy K a_row n_row s_row, wd_Sy K a_least n_least f_least, wd_Sy K a_next n_next f_next] A) args s 0 0 A) D classes A 5 127 [wd_Rt K a_self (a_grammar 0) (a_chart 0) (a_grower 0) (a_short 0) (a_row 0) (a_tape 0) (a_least 0) (a_next 0) s_self, wd_Gr K a_grammar s_grammar, wd_Ch K a_chart (a_grammar 0) (a_table 0) s_chart, wd_Tt K a_table s_table, wd_Gw K a_grower (a_grammar 0) (a_grown 0) (a_joined 0) s_grower, wd_Sy K a_grown n_grown s_grown, wd_Sy K a_joined n_joined s_joined, wd_Sy K a_row n_row s_row, wd_Sy K a_least n_least s_least, wd_Sy K a_next n_next s_next] [(0, .ref (a_self 0)), (1, .int v1), (3, .int v3), (4, .int v4)] [.int k1, .int k0] := by
  unfold f_Rt_isSound_127 at h
  refine gd_icmp_eq X (tgt := 132) d_Rt_isSound_127 (by decide) (fun c_1 => ?_) (fun c_1 => ?_)
  · replace h := it_p c_1 h
    refine gd_iload_n X d_Rt_isSound_132 2 rfl ?_
    refine gd_if_eq X (tgt := 150) d_Rt_isSound_133 (by decide) (fun c_2 => ?_) (fun c_2 => ?_)
    · replace h := it_p c_2 h
      refine gd_loc (lv' := [(0, .ref (a_self 0)), (1, .int v1), (4, .int v4)]) [0, 1, 3] rfl ?_
      exact t_Rt_isSound_150 a_self a_grammar a_chart a_table a_grower a_grown a_joined a_short a_row a_tape a_least a_next n_grown n_joined n_row n_least n_next X hr hlk N r f_table f_grower f_grown f_joined f_least f_next s_self s_grammar s_chart s_table s_grower s_grown s_joined s_row s_least s_next v1 v4 h
    · replace h := it_n c_2 h
      refine gd_aload_n X d_Rt_isSound_136 0 rfl ?_
      refine gd_aload_n X d_Rt_isSound_137 0 rfl ?_
      refine gd_get X (ci := 6) (C := R_Rt) (T := F_Rt) (N := 9) (v := .ref (a_least 0)) 0 0 rfl rfl rfl (in_Rt _) 6 (by decide) (List.mem_cons_of_mem _ fl_Rt_51) rfl rfl d_Rt_isSound_138 ?_
      refine gd_iload_n X d_Rt_isSound_141 1 rfl ?_
      obtain ⟨r_3, s_grower_4, s_grown_5, s_joined_6, hc_7, h⟩ := bd4_e h
      refine gd_cI X (gd_V X (As := [.ref (a_least 0), .int v1]) (rest := []) (c_Rt_isTreeOfRow l D K a_self a_grammar a_chart a_grower a_grown a_joined a_short a_row a_tape a_least a_next a_least n_grown n_joined n_row n_least N s_self s_grammar s_grower s_grown s_joined s_row s_least v1 r_3 s_grower_4 s_grown_5 s_joined_6 hc_7) 2 (gi_V ml_Rt_170 u_Rt_isTreeOfRow) rfl ⟨rfl, rfl⟩ (by decide +kernel) ⟨by decide, by decide⟩ (ci := 6) rfl rfl rfl rfl rfl rfl (Nat.le_of_ble_eq_true rfl) ⟨Nat.zero_le _, Nat.zero_le _⟩ d_Rt_isSound_142) (w2 := [wd_Rt K a_self (a_grammar 0) (a_chart 0) (a_grower 0) (a_short 0) (a_row 0) (a_tape 0) (a_least 0) (a_next 0) s_self, wd_Gr K a_grammar s_grammar, wd_Ch K a_chart (a_grammar 0) (a_table 0) s_chart, wd_Tt K a_table s_table, wd_Gw K a_grower (a_grammar 0) (a_grown 0) (a_joined 0) s_grower_4, wd_Sy K a_grown n_grown s_grown_5, wd_Sy K a_joined n_joined s_joined_6, wd_Sy K a_row n_row s_row, wd_Sy K a_least n_least s_least, wd_Sy K a_next n_next s_next]) [0, 1, 4, 5, 6, 7, 8] [2, 3, 9] rfl rfl rfl rfl ⟨rfl, rfl⟩ rfl ?_
      refine gd_if_ne X (tgt := 150) d_Rt_isSound_145 (by decide) (fun c_8 => ?_) (fun c_8 => ?_)
      · replace h := it_n c_8 h
        refine gd_loc (lv' := [(0, .ref (a_self 0)), (1, .int v1), (4, .int v4)]) [0, 1, 3] rfl ?_
        exact t_Rt_isSound_150 a_self a_grammar a_chart a_table a_grower a_grown a_joined a_short a_row a_tape a_least a_next n_grown n_joined n_row n_least n_next X hr hlk N r f_table f_grower f_grown f_joined f_least f_next s_self s_grammar s_chart s_table s_grower_4 s_grown_5 s_joined_6 s_row s_least s_next v1 v4 h
      · replace h := it_p c_8 h
        refine gd_iconst X (v := 0) d_Rt_isSound_148 (by decide) ?_
        cases h
        exact gd_zret X hr hlk (by decide) d_Rt_isSound_149
  · replace h := it_n c_1 h
    refine gd_iconst X (v := 0) d_Rt_isSound_130 (by decide) ?_
    cases h
    exact gd_zret X hr hlk (by decide) d_Rt_isSound_131
def f_Rt_isSound_112 (N : Nat) (n_grown : Nat) (n_joined : Nat) (n_row : Nat) (n_least : Nat) (n_next : Nat) (s_self s_grammar s_chart s_table s_grower s_grown s_joined s_row s_least s_next : Nat → Nat → Int32) (v1 v2 v3 v4 : Int32) (k0 : Int32) (k1 : Int32) : Option ((Int32) × (Nat → Nat → Int32) × (Nat → Nat → Int32) × (Nat → Nat → Int32) × (Nat → Nat → Int32) × (Nat → Nat → Int32) × (Nat → Nat → Int32)) :=
  if k0 = k1 then
    if v2 ≤ 1 then
      f_Rt_isSound_127 N n_grown n_joined n_row n_least n_next s_self s_grammar s_chart s_table s_grower s_grown s_joined s_row s_least s_next v1 v3 v4 v4 0
    else
      f_Rt_isSound_127 N n_grown n_joined n_row n_least n_next s_self s_grammar s_chart s_table s_grower s_grown s_joined s_row s_least s_next v1 v3 v4 v4 1
  else
    some ((0), s_table, s_grower, s_grown, s_joined, s_least, s_next)
set_option maxHeartbeats 4000000 in
set_option maxRecDepth 100000 in
theorem t_Rt_isSound_112 {p : Program} {l : Launch} {e : Env} {s : State} {m : MethodId} {args : Array Value} {below : List Frame} {meth : Method} {c : Code} {A : Nat → Prop} {D : va_G} {K : Nat → ClassId} (a_self a_grammar a_chart a_table a_grower a_grown a_joined a_short a_row a_tape a_least a_next : Nat → Nat) (n_grown : Nat) (n_joined : Nat) (n_row : Nat) (n_least : Nat) (n_next : Nat) (X : gx p s m args c b_Rt_isSound 5 R_Rt w_Rt_isSound D classes (tyK K) A) (hr : meth.sig.returnType = some .boolean) (hlk : meth.locks = false) (N : Nat) (r : Int32) (f_table f_grower f_grown f_joined f_least f_next : Nat → Nat → Int32) (s_self s_grammar s_chart s_table s_grower s_grown s_joined s_row s_least s_next : Nat → Nat → Int32) (v1 v2 v3 v4 : Int32) (k0 : Int32) (k1 : Int32) (h : f_Rt_isSound_112 N n_grown n_joined n_row n_least n_next s_self s_grammar s_chart s_table s_grower s_grown s_joined s_row s_least s_next v1 v2 v3 v4 k0 k1 = some (r, f_table, f_grower, f_grown, f_joined, f_least, f_next)) : Gd p l e rm_Rt_isSound s m args below meth c 0 0 (MQ below (sq D classes (tyK K) (some (.int r)) [wd_Rt K a_self (a_grammar 0) (a_chart 0) (a_grower 0) (a_short 0) (a_row 0) (a_tape 0) (a_least 0) (a_next 0) s_self, wd_Gr K a_grammar s_grammar, wd_Ch K a_chart (a_grammar 0) (a_table 0) s_chart, wd_Tt K a_table f_table, wd_Gw K a_grower (a_grammar 0) (a_grown 0) (a_joined 0) f_grower, wd_Sy K a_grown n_grown f_grown, wd_Sy K a_joined n_joined f_joined, wd_Sy K a_row n_row s_row, wd_Sy K a_least n_least f_least, wd_Sy K a_next n_next f_next] A) args s 0 0 A) D classes A 5 112 [wd_Rt K a_self (a_grammar 0) (a_chart 0) (a_grower 0) (a_short 0) (a_row 0) (a_tape 0) (a_least 0) (a_next 0) s_self, wd_Gr K a_grammar s_grammar, wd_Ch K a_chart (a_grammar 0) (a_table 0) s_chart, wd_Tt K a_table s_table, wd_Gw K a_grower (a_grammar 0) (a_grown 0) (a_joined 0) s_grower, wd_Sy K a_grown n_grown s_grown, wd_Sy K a_joined n_joined s_joined, wd_Sy K a_row n_row s_row, wd_Sy K a_least n_least s_least, wd_Sy K a_next n_next s_next] [(0, .ref (a_self 0)), (1, .int v1), (2, .int v2), (3, .int v3), (4, .int v4)] [.int k1, .int k0] := by
  unfold f_Rt_isSound_112 at h
  refine gd_icmp_ne X (tgt := 130) d_Rt_isSound_112 (by decide) (fun c_1 => ?_) (fun c_1 => ?_)
  · replace h := it_n c_1 h
    refine gd_iconst X (v := 0) d_Rt_isSound_130 (by decide) ?_
    cases h
    exact gd_zret X hr hlk (by decide) d_Rt_isSound_131
  · replace h := it_p c_1 h
    refine gd_iload X d_Rt_isSound_115 4 rfl ?_
    refine gd_iload_n X d_Rt_isSound_117 2 rfl ?_
    refine gd_iconst X (v := 1) d_Rt_isSound_118 (by decide) ?_
    refine gd_icmp_le X (tgt := 126) d_Rt_isSound_119 (by decide) (fun c_2 => ?_) (fun c_2 => ?_)
    · replace h := it_p c_2 h
      refine gd_iconst X (v := 0) d_Rt_isSound_126 (by decide) ?_
      refine gd_loc (lv' := [(0, .ref (a_self 0)), (1, .int v1), (3, .int v3), (4, .int v4)]) [0, 1, 3, 4] rfl ?_
      exact t_Rt_isSound_127 a_self a_grammar a_chart a_table a_grower a_grown a_joined a_short a_row a_tape a_least a_next n_grown n_joined n_row n_least n_next X hr hlk N r f_table f_grower f_grown f_joined f_least f_next s_self s_grammar s_chart s_table s_grower s_grown s_joined s_row s_least s_next v1 v3 v4 v4 0 h
    · replace h := it_n c_2 h
      refine gd_iconst X (v := 1) d_Rt_isSound_122 (by decide) ?_
      refine gd_goto X (tgt := 127) d_Rt_isSound_123 (by decide) ?_
      refine gd_loc (lv' := [(0, .ref (a_self 0)), (1, .int v1), (3, .int v3), (4, .int v4)]) [0, 1, 3, 4] rfl ?_
      exact t_Rt_isSound_127 a_self a_grammar a_chart a_table a_grower a_grown a_joined a_short a_row a_tape a_least a_next n_grown n_joined n_row n_least n_next X hr hlk N r f_table f_grower f_grown f_joined f_least f_next s_self s_grammar s_chart s_table s_grower s_grown s_joined s_row s_least s_next v1 v3 v4 v4 1 h
def f_Rt_isSound_84 (N : Nat) (n_grown : Nat) (n_joined : Nat) (n_row : Nat) (n_least : Nat) (n_next : Nat) (s_self s_grammar s_chart s_table s_grower s_grown s_joined s_row s_least s_next : Nat → Nat → Int32) (v1 v2 : Int32) (k0 : Int32) : Option ((Int32) × (Nat → Nat → Int32) × (Nat → Nat → Int32) × (Nat → Nat → Int32) × (Nat → Nat → Int32) × (Nat → Nat → Int32) × (Nat → Nat → Int32)) :=
  if (s_next 0 1) ≤ 0 then
    if v2 ≤ 0 then
      f_Rt_isSound_112 N n_grown n_joined n_row n_least n_next s_self s_grammar s_chart s_table s_grower s_grown s_joined s_row s_least s_next v1 v2 k0 0 k0 0
    else
      f_Rt_isSound_112 N n_grown n_joined n_row n_least n_next s_self s_grammar s_chart s_table s_grower s_grown s_joined s_row s_least s_next v1 v2 k0 0 k0 1
  else
    if v2 ≤ 0 then
      f_Rt_isSound_112 N n_grown n_joined n_row n_least n_next s_self s_grammar s_chart s_table s_grower s_grown s_joined s_row s_least s_next v1 v2 k0 1 k0 0
    else
      f_Rt_isSound_112 N n_grown n_joined n_row n_least n_next s_self s_grammar s_chart s_table s_grower s_grown s_joined s_row s_least s_next v1 v2 k0 1 k0 1
set_option maxHeartbeats 4000000 in
set_option maxRecDepth 100000 in
theorem t_Rt_isSound_84 {p : Program} {l : Launch} {e : Env} {s : State} {m : MethodId} {args : Array Value} {below : List Frame} {meth : Method} {c : Code} {A : Nat → Prop} {D : va_G} {K : Nat → ClassId} (a_self a_grammar a_chart a_table a_grower a_grown a_joined a_short a_row a_tape a_least a_next : Nat → Nat) (n_grown : Nat) (n_joined : Nat) (n_row : Nat) (n_least : Nat) (n_next : Nat) (X : gx p s m args c b_Rt_isSound 5 R_Rt w_Rt_isSound D classes (tyK K) A) (hr : meth.sig.returnType = some .boolean) (hlk : meth.locks = false) (N : Nat) (r : Int32) (f_table f_grower f_grown f_joined f_least f_next : Nat → Nat → Int32) (s_self s_grammar s_chart s_table s_grower s_grown s_joined s_row s_least s_next : Nat → Nat → Int32) (v1 v2 : Int32) (k0 : Int32) (h : f_Rt_isSound_84 N n_grown n_joined n_row n_least n_next s_self s_grammar s_chart s_table s_grower s_grown s_joined s_row s_least s_next v1 v2 k0 = some (r, f_table, f_grower, f_grown, f_joined, f_least, f_next)) : Gd p l e rm_Rt_isSound s m args below meth c 0 0 (MQ below (sq D classes (tyK K) (some (.int r)) [wd_Rt K a_self (a_grammar 0) (a_chart 0) (a_grower 0) (a_short 0) (a_row 0) (a_tape 0) (a_least 0) (a_next 0) s_self, wd_Gr K a_grammar s_grammar, wd_Ch K a_chart (a_grammar 0) (a_table 0) s_chart, wd_Tt K a_table f_table, wd_Gw K a_grower (a_grammar 0) (a_grown 0) (a_joined 0) f_grower, wd_Sy K a_grown n_grown f_grown, wd_Sy K a_joined n_joined f_joined, wd_Sy K a_row n_row s_row, wd_Sy K a_least n_least f_least, wd_Sy K a_next n_next f_next] A) args s 0 0 A) D classes A 5 84 [wd_Rt K a_self (a_grammar 0) (a_chart 0) (a_grower 0) (a_short 0) (a_row 0) (a_tape 0) (a_least 0) (a_next 0) s_self, wd_Gr K a_grammar s_grammar, wd_Ch K a_chart (a_grammar 0) (a_table 0) s_chart, wd_Tt K a_table s_table, wd_Gw K a_grower (a_grammar 0) (a_grown 0) (a_joined 0) s_grower, wd_Sy K a_grown n_grown s_grown, wd_Sy K a_joined n_joined s_joined, wd_Sy K a_row n_row s_row, wd_Sy K a_least n_least s_least, wd_Sy K a_next n_next s_next] [(0, .ref (a_self 0)), (1, .int v1), (2, .int v2)] [.int k0] := by
  unfold f_Rt_isSound_84 at h
  refine gd_istore_n X (lv' := [(3, .int k0), (0, .ref (a_self 0)), (1, .int v1), (2, .int v2)]) d_Rt_isSound_84 rfl (by decide) rfl ?_
  refine gd_aload_n X d_Rt_isSound_85 1 rfl ?_
  refine gd_get X (ci := 6) (C := R_Rt) (T := F_Rt) (N := 9) (v := .ref (a_next 0)) 0 0 rfl rfl rfl (in_Rt _) 7 (by decide) (List.mem_cons_of_mem _ fl_Rt_54) rfl rfl d_Rt_isSound_86 ?_
  refine gd_get X (ci := 0) (C := R_Sy) (T := F_Sy) (N := 2) (v := .int (s_next 0 1)) 9 0 rfl rfl rfl (in_Sy _) 1 (by decide) (List.mem_cons_of_mem _ fl_Rt_85) rfl rfl d_Rt_isSound_89 ?_
  refine gd_if_le X (tgt := 99) d_Rt_isSound_92 (by decide) (fun c_1 => ?_) (fun c_1 => ?_)
  · replace h := it_p c_1 h
    refine gd_iconst X (v := 0) d_Rt_isSound_99 (by decide) ?_
    refine gd_istore X (lv' := [(4, .int 0), (3, .int k0), (0, .ref (a_self 0)), (1, .int v1), (2, .int v2)]) d_Rt_isSound_100 (by decide) rfl ?_
    refine gd_iload_n X d_Rt_isSound_102 1 rfl ?_
    refine gd_iload_n X d_Rt_isSound_103 4 rfl ?_
    refine gd_if_le X (tgt := 111) d_Rt_isSound_104 (by decide) (fun c_2 => ?_) (fun c_2 => ?_)
    · replace h := it_p c_2 h
      refine gd_iconst X (v := 0) d_Rt_isSound_111 (by decide) ?_
      refine gd_loc (lv' := [(0, .ref (a_self 0)), (1, .int v1), (2, .int v2), (3, .int k0), (4, .int 0)]) [2, 3, 4, 1, 0] rfl ?_
      exact t_Rt_isSound_112 a_self a_grammar a_chart a_table a_grower a_grown a_joined a_short a_row a_tape a_least a_next n_grown n_joined n_row n_least n_next X hr hlk N r f_table f_grower f_grown f_joined f_least f_next s_self s_grammar s_chart s_table s_grower s_grown s_joined s_row s_least s_next v1 v2 k0 0 k0 0 h
    · replace h := it_n c_2 h
      refine gd_iconst X (v := 1) d_Rt_isSound_107 (by decide) ?_
      refine gd_goto X (tgt := 112) d_Rt_isSound_108 (by decide) ?_
      refine gd_loc (lv' := [(0, .ref (a_self 0)), (1, .int v1), (2, .int v2), (3, .int k0), (4, .int 0)]) [2, 3, 4, 1, 0] rfl ?_
      exact t_Rt_isSound_112 a_self a_grammar a_chart a_table a_grower a_grown a_joined a_short a_row a_tape a_least a_next n_grown n_joined n_row n_least n_next X hr hlk N r f_table f_grower f_grown f_joined f_least f_next s_self s_grammar s_chart s_table s_grower s_grown s_joined s_row s_least s_next v1 v2 k0 0 k0 1 h
  · replace h := it_n c_1 h
    refine gd_iconst X (v := 1) d_Rt_isSound_95 (by decide) ?_
    refine gd_goto X (tgt := 100) d_Rt_isSound_96 (by decide) ?_
    refine gd_istore X (lv' := [(4, .int 1), (3, .int k0), (0, .ref (a_self 0)), (1, .int v1), (2, .int v2)]) d_Rt_isSound_100 (by decide) rfl ?_
    refine gd_iload_n X d_Rt_isSound_102 1 rfl ?_
    refine gd_iload_n X d_Rt_isSound_103 4 rfl ?_
    refine gd_if_le X (tgt := 111) d_Rt_isSound_104 (by decide) (fun c_3 => ?_) (fun c_3 => ?_)
    · replace h := it_p c_3 h
      refine gd_iconst X (v := 0) d_Rt_isSound_111 (by decide) ?_
      refine gd_loc (lv' := [(0, .ref (a_self 0)), (1, .int v1), (2, .int v2), (3, .int k0), (4, .int 1)]) [2, 3, 4, 1, 0] rfl ?_
      exact t_Rt_isSound_112 a_self a_grammar a_chart a_table a_grower a_grown a_joined a_short a_row a_tape a_least a_next n_grown n_joined n_row n_least n_next X hr hlk N r f_table f_grower f_grown f_joined f_least f_next s_self s_grammar s_chart s_table s_grower s_grown s_joined s_row s_least s_next v1 v2 k0 1 k0 0 h
    · replace h := it_n c_3 h
      refine gd_iconst X (v := 1) d_Rt_isSound_107 (by decide) ?_
      refine gd_goto X (tgt := 112) d_Rt_isSound_108 (by decide) ?_
      refine gd_loc (lv' := [(0, .ref (a_self 0)), (1, .int v1), (2, .int v2), (3, .int k0), (4, .int 1)]) [2, 3, 4, 1, 0] rfl ?_
      exact t_Rt_isSound_112 a_self a_grammar a_chart a_table a_grower a_grown a_joined a_short a_row a_tape a_least a_next n_grown n_joined n_row n_least n_next X hr hlk N r f_table f_grower f_grown f_joined f_least f_next s_self s_grammar s_chart s_table s_grower s_grown s_joined s_row s_least s_next v1 v2 k0 1 k0 1 h
def f_Rt_isSound_0 (N : Nat) (n_grown : Nat) (n_joined : Nat) (n_row : Nat) (n_least : Nat) (n_next : Nat) (s_self s_grammar s_chart s_table s_grower s_grown s_joined s_row s_least s_next : Nat → Nat → Int32) (v1 : Int32) : Option ((Int32) × (Nat → Nat → Int32) × (Nat → Nat → Int32) × (Nat → Nat → Int32) × (Nat → Nat → Int32) × (Nat → Nat → Int32) × (Nat → Nat → Int32)) :=
  if (s_row 0 1) = 0 then
    some ((1), s_table, s_grower, s_grown, s_joined, s_least, s_next)
  else
    bd1 (m_Ch_waysOf s_chart v1 0 (s_row 0 1)) fun r_2 =>
    bd2 (m_Ch_spell N n_least s_chart s_table s_least v1 0 (s_row 0 1)) fun s_table_4 s_least_5 =>
    bd2 (m_Ch_spell N n_next s_chart s_table_4 s_next v1 1 (s_row 0 1)) fun s_table_7 s_next_8 =>
    if (s_least_5 0 1) ≤ 0 then
      f_Rt_isSound_84 N n_grown n_joined n_row n_least n_next s_self s_grammar s_chart s_table_7 s_grower s_grown s_joined s_row s_least_5 s_next_8 v1 r_2 0
    else
      f_Rt_isSound_84 N n_grown n_joined n_row n_least n_next s_self s_grammar s_chart s_table_7 s_grower s_grown s_joined s_row s_least_5 s_next_8 v1 r_2 1
set_option maxHeartbeats 4000000 in
set_option maxRecDepth 100000 in
theorem t_Rt_isSound_0 {p : Program} {l : Launch} {e : Env} {s : State} {m : MethodId} {args : Array Value} {below : List Frame} {meth : Method} {c : Code} {A : Nat → Prop} {D : va_G} {K : Nat → ClassId} (a_self a_grammar a_chart a_table a_grower a_grown a_joined a_short a_row a_tape a_least a_next : Nat → Nat) (n_grown : Nat) (n_joined : Nat) (n_row : Nat) (n_least : Nat) (n_next : Nat) (X : gx p s m args c b_Rt_isSound 5 R_Rt w_Rt_isSound D classes (tyK K) A) (hr : meth.sig.returnType = some .boolean) (hlk : meth.locks = false) (N : Nat) (r : Int32) (f_table f_grower f_grown f_joined f_least f_next : Nat → Nat → Int32) (s_self s_grammar s_chart s_table s_grower s_grown s_joined s_row s_least s_next : Nat → Nat → Int32) (v1 : Int32) (h : f_Rt_isSound_0 N n_grown n_joined n_row n_least n_next s_self s_grammar s_chart s_table s_grower s_grown s_joined s_row s_least s_next v1 = some (r, f_table, f_grower, f_grown, f_joined, f_least, f_next)) : Gd p l e rm_Rt_isSound s m args below meth c 0 0 (MQ below (sq D classes (tyK K) (some (.int r)) [wd_Rt K a_self (a_grammar 0) (a_chart 0) (a_grower 0) (a_short 0) (a_row 0) (a_tape 0) (a_least 0) (a_next 0) s_self, wd_Gr K a_grammar s_grammar, wd_Ch K a_chart (a_grammar 0) (a_table 0) s_chart, wd_Tt K a_table f_table, wd_Gw K a_grower (a_grammar 0) (a_grown 0) (a_joined 0) f_grower, wd_Sy K a_grown n_grown f_grown, wd_Sy K a_joined n_joined f_joined, wd_Sy K a_row n_row s_row, wd_Sy K a_least n_least f_least, wd_Sy K a_next n_next f_next] A) args s 0 0 A) D classes A 5 0 [wd_Rt K a_self (a_grammar 0) (a_chart 0) (a_grower 0) (a_short 0) (a_row 0) (a_tape 0) (a_least 0) (a_next 0) s_self, wd_Gr K a_grammar s_grammar, wd_Ch K a_chart (a_grammar 0) (a_table 0) s_chart, wd_Tt K a_table s_table, wd_Gw K a_grower (a_grammar 0) (a_grown 0) (a_joined 0) s_grower, wd_Sy K a_grown n_grown s_grown, wd_Sy K a_joined n_joined s_joined, wd_Sy K a_row n_row s_row, wd_Sy K a_least n_least s_least, wd_Sy K a_next n_next s_next] [(0, .ref (a_self 0)), (1, .int v1)] [] := by
  unfold f_Rt_isSound_0 at h
  refine gd_aload_n X d_Rt_isSound_0 0 rfl ?_
  refine gd_get X (ci := 6) (C := R_Rt) (T := F_Rt) (N := 9) (v := .ref (a_row 0)) 0 0 rfl rfl rfl (in_Rt _) 4 (by decide) (List.mem_cons_of_mem _ fl_Rt_44) rfl rfl d_Rt_isSound_1 ?_
  refine gd_get X (ci := 0) (C := R_Sy) (T := F_Sy) (N := 2) (v := .int (s_row 0 1)) 7 0 rfl rfl rfl (in_Sy _) 1 (by decide) (List.mem_cons_of_mem _ fl_Rt_85) rfl rfl d_Rt_isSound_4 ?_
  refine gd_if_ne X (tgt := 12) d_Rt_isSound_7 (by decide) (fun c_1 => ?_) (fun c_1 => ?_)
  · replace h := it_n c_1 h
    refine gd_aload_n X d_Rt_isSound_12 0 rfl ?_
    refine gd_get X (ci := 6) (C := R_Rt) (T := F_Rt) (N := 9) (v := .ref (a_chart 0)) 0 0 rfl rfl rfl (in_Rt _) 1 (by decide) (List.mem_cons_of_mem _ fl_Rt_21) rfl rfl d_Rt_isSound_13 ?_
    refine gd_iload_n X d_Rt_isSound_16 1 rfl ?_
    refine gd_iconst X (v := 0) d_Rt_isSound_17 (by decide) ?_
    refine gd_aload_n X d_Rt_isSound_18 0 rfl ?_
    refine gd_get X (ci := 6) (C := R_Rt) (T := F_Rt) (N := 9) (v := .ref (a_row 0)) 0 0 rfl rfl rfl (in_Rt _) 4 (by decide) (List.mem_cons_of_mem _ fl_Rt_44) rfl rfl d_Rt_isSound_19 ?_
    refine gd_get X (ci := 0) (C := R_Sy) (T := F_Sy) (N := 2) (v := .int (s_row 0 1)) 7 0 rfl rfl rfl (in_Sy _) 1 (by decide) (List.mem_cons_of_mem _ fl_Rt_85) rfl rfl d_Rt_isSound_22 ?_
    obtain ⟨r_2, hc_3, h⟩ := bd1_e h
    refine gd_pI X (gd_V X (As := [.int v1, .int 0, .int (s_row 0 1)]) (rest := []) (c_Ch_waysOf l D K a_chart a_grammar a_table s_chart v1 0 (s_row 0 1) r_2 hc_3) 3 (gi_V ml_Rt_98 u_Ch_waysOf) rfl ⟨rfl, rfl⟩ (by decide +kernel) ⟨by decide, by decide⟩ (ci := 3) rfl rfl rfl rfl rfl rfl (Nat.le_of_ble_eq_true rfl) ⟨Nat.zero_le _, Nat.zero_le _⟩ d_Rt_isSound_25) [2] rfl rfl ?_
    refine gd_istore_n X (lv' := [(2, .int r_2), (0, .ref (a_self 0)), (1, .int v1)]) d_Rt_isSound_28 rfl (by decide) rfl ?_
    refine gd_aload_n X d_Rt_isSound_29 1 rfl ?_
    refine gd_get X (ci := 6) (C := R_Rt) (T := F_Rt) (N := 9) (v := .ref (a_chart 0)) 0 0 rfl rfl rfl (in_Rt _) 1 (by decide) (List.mem_cons_of_mem _ fl_Rt_21) rfl rfl d_Rt_isSound_30 ?_
    refine gd_iload_n X d_Rt_isSound_33 2 rfl ?_
    refine gd_iconst X (v := 0) d_Rt_isSound_34 (by decide) ?_
    refine gd_aload_n X d_Rt_isSound_35 1 rfl ?_
    refine gd_get X (ci := 6) (C := R_Rt) (T := F_Rt) (N := 9) (v := .ref (a_row 0)) 0 0 rfl rfl rfl (in_Rt _) 4 (by decide) (List.mem_cons_of_mem _ fl_Rt_44) rfl rfl d_Rt_isSound_36 ?_
    refine gd_get X (ci := 0) (C := R_Sy) (T := F_Sy) (N := 2) (v := .int (s_row 0 1)) 7 0 rfl rfl rfl (in_Sy _) 1 (by decide) (List.mem_cons_of_mem _ fl_Rt_85) rfl rfl d_Rt_isSound_39 ?_
    refine gd_aload_n X d_Rt_isSound_42 1 rfl ?_
    refine gd_get X (ci := 6) (C := R_Rt) (T := F_Rt) (N := 9) (v := .ref (a_least 0)) 0 0 rfl rfl rfl (in_Rt _) 6 (by decide) (List.mem_cons_of_mem _ fl_Rt_51) rfl rfl d_Rt_isSound_43 ?_
    obtain ⟨s_table_4, s_least_5, hc_6, h⟩ := bd2_e h
    refine gd_cv X (gd_V X (As := [.int v1, .int 0, .int (s_row 0 1), .ref (a_least 0)]) (rest := []) (c_Ch_spell l D K a_chart a_grammar a_table a_least n_least N s_chart s_table s_least v1 0 (s_row 0 1) s_table_4 s_least_5 hc_6) 4 (gi_V ml_Rt_113 u_Ch_spell) rfl ⟨rfl, rfl⟩ (by decide +kernel) ⟨by decide, by decide⟩ (ci := 3) rfl rfl rfl rfl rfl rfl (Nat.le_of_ble_eq_true rfl) ⟨Nat.zero_le _, Nat.zero_le _⟩ d_Rt_isSound_46) (w2 := [wd_Rt K a_self (a_grammar 0) (a_chart 0) (a_grower 0) (a_short 0) (a_row 0) (a_tape 0) (a_least 0) (a_next 0) s_self, wd_Gr K a_grammar s_grammar, wd_Ch K a_chart (a_grammar 0) (a_table 0) s_chart, wd_Tt K a_table s_table_4, wd_Gw K a_grower (a_grammar 0) (a_grown 0) (a_joined 0) s_grower, wd_Sy K a_grown n_grown s_grown, wd_Sy K a_joined n_joined s_joined, wd_Sy K a_row n_row s_row, wd_Sy K a_least n_least s_least_5, wd_Sy K a_next n_next s_next]) [2, 3, 8] [0, 1, 4, 5, 6, 7, 9] rfl rfl rfl rfl ⟨rfl, rfl⟩ rfl ?_
    refine gd_aload_n X d_Rt_isSound_49 1 rfl ?_
    refine gd_get X (ci := 6) (C := R_Rt) (T := F_Rt) (N := 9) (v := .ref (a_chart 0)) 0 0 rfl rfl rfl (in_Rt _) 1 (by decide) (List.mem_cons_of_mem _ fl_Rt_21) rfl rfl d_Rt_isSound_50 ?_
    refine gd_iload_n X d_Rt_isSound_53 2 rfl ?_
    refine gd_iconst X (v := 1) d_Rt_isSound_54 (by decide) ?_
    refine gd_aload_n X d_Rt_isSound_55 1 rfl ?_
    refine gd_get X (ci := 6) (C := R_Rt) (T := F_Rt) (N := 9) (v := .ref (a_row 0)) 0 0 rfl rfl rfl (in_Rt _) 4 (by decide) (List.mem_cons_of_mem _ fl_Rt_44) rfl rfl d_Rt_isSound_56 ?_
    refine gd_get X (ci := 0) (C := R_Sy) (T := F_Sy) (N := 2) (v := .int (s_row 0 1)) 7 0 rfl rfl rfl (in_Sy _) 1 (by decide) (List.mem_cons_of_mem _ fl_Rt_85) rfl rfl d_Rt_isSound_59 ?_
    refine gd_aload_n X d_Rt_isSound_62 1 rfl ?_
    refine gd_get X (ci := 6) (C := R_Rt) (T := F_Rt) (N := 9) (v := .ref (a_next 0)) 0 0 rfl rfl rfl (in_Rt _) 7 (by decide) (List.mem_cons_of_mem _ fl_Rt_54) rfl rfl d_Rt_isSound_63 ?_
    obtain ⟨s_table_7, s_next_8, hc_9, h⟩ := bd2_e h
    refine gd_cv X (gd_V X (As := [.int v1, .int 1, .int (s_row 0 1), .ref (a_next 0)]) (rest := []) (c_Ch_spell l D K a_chart a_grammar a_table a_next n_next N s_chart s_table_4 s_next v1 1 (s_row 0 1) s_table_7 s_next_8 hc_9) 4 (gi_V ml_Rt_113 u_Ch_spell) rfl ⟨rfl, rfl⟩ (by decide +kernel) ⟨by decide, by decide⟩ (ci := 3) rfl rfl rfl rfl rfl rfl (Nat.le_of_ble_eq_true rfl) ⟨Nat.zero_le _, Nat.zero_le _⟩ d_Rt_isSound_66) (w2 := [wd_Rt K a_self (a_grammar 0) (a_chart 0) (a_grower 0) (a_short 0) (a_row 0) (a_tape 0) (a_least 0) (a_next 0) s_self, wd_Gr K a_grammar s_grammar, wd_Ch K a_chart (a_grammar 0) (a_table 0) s_chart, wd_Tt K a_table s_table_7, wd_Gw K a_grower (a_grammar 0) (a_grown 0) (a_joined 0) s_grower, wd_Sy K a_grown n_grown s_grown, wd_Sy K a_joined n_joined s_joined, wd_Sy K a_row n_row s_row, wd_Sy K a_least n_least s_least_5, wd_Sy K a_next n_next s_next_8]) [2, 3, 9] [0, 1, 4, 5, 6, 7, 8] rfl rfl rfl rfl ⟨rfl, rfl⟩ rfl ?_
    refine gd_aload_n X d_Rt_isSound_69 1 rfl ?_
    refine gd_get X (ci := 6) (C := R_Rt) (T := F_Rt) (N := 9) (v := .ref (a_least 0)) 0 0 rfl rfl rfl (in_Rt _) 6 (by decide) (List.mem_cons_of_mem _ fl_Rt_51) rfl rfl d_Rt_isSound_70 ?_
    refine gd_get X (ci := 0) (C := R_Sy) (T := F_Sy) (N := 2) (v := .int (s_least_5 0 1)) 8 0 rfl rfl rfl (in_Sy _) 1 (by decide) (List.mem_cons_of_mem _ fl_Rt_85) rfl rfl d_Rt_isSound_73 ?_
    refine gd_if_le X (tgt := 83) d_Rt_isSound_76 (by decide) (fun c_10 => ?_) (fun c_10 => ?_)
    · replace h := it_p c_10 h
      refine gd_iconst X (v := 0) d_Rt_isSound_83 (by decide) ?_
      refine gd_loc (lv' := [(0, .ref (a_self 0)), (1, .int v1), (2, .int r_2)]) [1, 2, 0] rfl ?_
      exact t_Rt_isSound_84 a_self a_grammar a_chart a_table a_grower a_grown a_joined a_short a_row a_tape a_least a_next n_grown n_joined n_row n_least n_next X hr hlk N r f_table f_grower f_grown f_joined f_least f_next s_self s_grammar s_chart s_table_7 s_grower s_grown s_joined s_row s_least_5 s_next_8 v1 r_2 0 h
    · replace h := it_n c_10 h
      refine gd_iconst X (v := 1) d_Rt_isSound_79 (by decide) ?_
      refine gd_goto X (tgt := 84) d_Rt_isSound_80 (by decide) ?_
      refine gd_loc (lv' := [(0, .ref (a_self 0)), (1, .int v1), (2, .int r_2)]) [1, 2, 0] rfl ?_
      exact t_Rt_isSound_84 a_self a_grammar a_chart a_table a_grower a_grown a_joined a_short a_row a_tape a_least a_next n_grown n_joined n_row n_least n_next X hr hlk N r f_table f_grower f_grown f_joined f_least f_next s_self s_grammar s_chart s_table_7 s_grower s_grown s_joined s_row s_least_5 s_next_8 v1 r_2 1 h
  · replace h := it_p c_1 h
    refine gd_iconst X (v := 1) d_Rt_isSound_10 (by decide) ?_
    cases h
    exact gd_zret X hr hlk (by decide) d_Rt_isSound_11
def m_Rt_isSound (N : Nat) (n_grown : Nat) (n_joined : Nat) (n_row : Nat) (n_least : Nat) (n_next : Nat) (s_self s_grammar s_chart s_table s_grower s_grown s_joined s_row s_least s_next : Nat → Nat → Int32) (v1 : Int32) : Option ((Int32) × (Nat → Nat → Int32) × (Nat → Nat → Int32) × (Nat → Nat → Int32) × (Nat → Nat → Int32) × (Nat → Nat → Int32) × (Nat → Nat → Int32)) := f_Rt_isSound_0 N n_grown n_joined n_row n_least n_next s_self s_grammar s_chart s_table s_grower s_grown s_joined s_row s_least s_next v1
set_option maxHeartbeats 4000000 in
set_option maxRecDepth 100000 in
theorem c_Rt_isSound (l : Launch) (D : va_G) (K : Nat → ClassId) (a_self a_grammar a_chart a_table a_grower a_grown a_joined a_short a_row a_tape a_least a_next : Nat → Nat) (n_grown : Nat) (n_joined : Nat) (n_row : Nat) (n_least : Nat) (n_next : Nat) (N : Nat) (s_self s_grammar s_chart s_table s_grower s_grown s_joined s_row s_least s_next : Nat → Nat → Int32) (v1 : Int32) (r : Int32) (f_table f_grower f_grown f_joined f_least f_next : Nat → Nat → Int32) (h : m_Rt_isSound N n_grown n_joined n_row n_least n_next s_self s_grammar s_chart s_table s_grower s_grown s_joined s_row s_least s_next v1 = some (r, f_table, f_grower, f_grown, f_joined, f_least, f_next)) : SMet l y_Rt_isSound w_Rt_isSound rm_Rt_isSound D classes (tyK K) [.ref (a_self 0), .int v1] (some (.int r)) [wd_Rt K a_self (a_grammar 0) (a_chart 0) (a_grower 0) (a_short 0) (a_row 0) (a_tape 0) (a_least 0) (a_next 0) s_self, wd_Gr K a_grammar s_grammar, wd_Ch K a_chart (a_grammar 0) (a_table 0) s_chart, wd_Tt K a_table s_table, wd_Gw K a_grower (a_grammar 0) (a_grown 0) (a_joined 0) s_grower, wd_Sy K a_grown n_grown s_grown, wd_Sy K a_joined n_joined s_joined, wd_Sy K a_row n_row s_row, wd_Sy K a_least n_least s_least, wd_Sy K a_next n_next s_next] [wd_Rt K a_self (a_grammar 0) (a_chart 0) (a_grower 0) (a_short 0) (a_row 0) (a_tape 0) (a_least 0) (a_next 0) s_self, wd_Gr K a_grammar s_grammar, wd_Ch K a_chart (a_grammar 0) (a_table 0) s_chart, wd_Tt K a_table f_table, wd_Gw K a_grower (a_grammar 0) (a_grown 0) (a_joined 0) f_grower, wd_Sy K a_grown n_grown f_grown, wd_Sy K a_joined n_joined f_joined, wd_Sy K a_row n_row s_row, wd_Sy K a_least n_least f_least, wd_Sy K a_next n_next f_next] := by
  refine sm_of R_Rt (by decide) rfl rfl (Nat.le_of_ble_eq_true rfl) ?_
  intro p e s m below meth c A X hr hlk
  refine gd_loc (lv' := [(0, .ref (a_self 0)), (1, .int v1)]) [0, 1] rfl ?_
  exact t_Rt_isSound_0 a_self a_grammar a_chart a_table a_grower a_grown a_joined a_short a_row a_tape a_least a_next n_grown n_joined n_row n_least n_next X hr hlk N r f_table f_grower f_grown f_joined f_least f_next s_self s_grammar s_chart s_table s_grower s_grown s_joined s_row s_least s_next v1 h
abbrev b_Rt_check : ByteArray := prog_1_method_21_code
def y_Rt_check : MethodName := ⟨R_Rt, "check", "()I"⟩
def w_Rt_check : List Cond := .code y_Rt_check b_Rt_check 2 (some .int) :: TB
theorem k_Rt_check : Cond.code y_Rt_check b_Rt_check 2 (some .int) ∈ TB := tb_of 691 (by decide +kernel) (by decide +kernel)
theorem d_Rt_check_0 : decode b_Rt_check 0 = .ok (.aload_n 0, 1) := by decide +kernel
theorem d_Rt_check_1 : decode b_Rt_check 1 = .ok (.getfield 21, 3) := by decide +kernel
theorem d_Rt_check_4 : decode b_Rt_check 4 = .ok (.aload_n 0, 1) := by decide +kernel
theorem d_Rt_check_5 : decode b_Rt_check 5 = .ok (.getfield 44, 3) := by decide +kernel
theorem d_Rt_check_8 : decode b_Rt_check 8 = .ok (.invokevirtual 94, 3) := by decide +kernel
theorem d_Rt_check_11 : decode b_Rt_check 11 = .ok (.iconst 0, 1) := by decide +kernel
theorem d_Rt_check_12 : decode b_Rt_check 12 = .ok (.istore_n 1, 1) := by decide +kernel
theorem d_Rt_check_13 : decode b_Rt_check 13 = .ok (.iload_n 1, 1) := by decide +kernel
theorem d_Rt_check_14 : decode b_Rt_check 14 = .ok (.aload_n 0, 1) := by decide +kernel
theorem d_Rt_check_15 : decode b_Rt_check 15 = .ok (.getfield 12, 3) := by decide +kernel
theorem d_Rt_check_18 : decode b_Rt_check 18 = .ok (.getfield 155, 3) := by decide +kernel
theorem d_Rt_check_21 : decode b_Rt_check 21 = .ok (.if_icmp .ge 19, 3) := by decide +kernel
theorem d_Rt_check_24 : decode b_Rt_check 24 = .ok (.aload_n 0, 1) := by decide +kernel
theorem d_Rt_check_25 : decode b_Rt_check 25 = .ok (.iload_n 1, 1) := by decide +kernel
theorem d_Rt_check_26 : decode b_Rt_check 26 = .ok (.invokevirtual 167, 3) := by decide +kernel
theorem d_Rt_check_29 : decode b_Rt_check 29 = .ok (.ifCond .ne 5, 3) := by decide +kernel
theorem d_Rt_check_32 : decode b_Rt_check 32 = .ok (.iconst 0, 1) := by decide +kernel
theorem d_Rt_check_33 : decode b_Rt_check 33 = .ok (.ireturn, 1) := by decide +kernel
theorem d_Rt_check_34 : decode b_Rt_check 34 = .ok (.iinc 1 1, 3) := by decide +kernel
theorem d_Rt_check_37 : decode b_Rt_check 37 = .ok (.goto (-24), 3) := by decide +kernel
theorem d_Rt_check_40 : decode b_Rt_check 40 = .ok (.iconst 1, 1) := by decide +kernel
theorem d_Rt_check_41 : decode b_Rt_check 41 = .ok (.ireturn, 1) := by decide +kernel
theorem ml_Rt_167 : Cond.methodLink R_Rt 167 ⟨"RuleTrees", "isSound", "(I)Z"⟩ ∈ TB := tb_of 692 (by decide +kernel) (by decide +kernel)
theorem u_Rt_isSound : (Cond.instanceMethod y_Rt_isSound ∈ TB ∧ Cond.selects R_Rt y_Rt_isSound y_Rt_isSound ∈ TB) ∧ Cond.initialized R_Rt ∈ TB ∧ Cond.code y_Rt_isSound b_Rt_isSound 5 (some .boolean) ∈ TB := ⟨⟨(tb_of 694 (by decide +kernel) (by decide +kernel)), (tb_of 32 (by decide +kernel) (by decide +kernel))⟩, (tb_of 62 (by decide +kernel) (by decide +kernel)), k_Rt_isSound⟩
abbrev rm_Rt_check : Room := { frames := 16, cells := 0, slots := 0, locals := 459 }
def f_Rt_check_13 (N : Nat) (n_grown : Nat) (n_joined : Nat) (n_row : Nat) (n_least : Nat) (n_next : Nat) (kb : (Nat → Nat → Int32) → (Nat → Nat → Int32) → (Nat → Nat → Int32) → (Nat → Nat → Int32) → (Nat → Nat → Int32) → (Nat → Nat → Int32) → Int32 → Option ((Int32) × (Nat → Nat → Int32) × (Nat → Nat → Int32) × (Nat → Nat → Int32) × (Nat → Nat → Int32) × (Nat → Nat → Int32) × (Nat → Nat → Int32) × (Nat → Nat → Int32))) (kx32 : (Nat → Nat → Int32) → (Nat → Nat → Int32) → (Nat → Nat → Int32) → (Nat → Nat → Int32) → (Nat → Nat → Int32) → (Nat → Nat → Int32) → Option ((Int32) × (Nat → Nat → Int32) × (Nat → Nat → Int32) × (Nat → Nat → Int32) × (Nat → Nat → Int32) × (Nat → Nat → Int32) × (Nat → Nat → Int32) × (Nat → Nat → Int32))) (kx40 : (Nat → Nat → Int32) → (Nat → Nat → Int32) → (Nat → Nat → Int32) → (Nat → Nat → Int32) → (Nat → Nat → Int32) → (Nat → Nat → Int32) → Option ((Int32) × (Nat → Nat → Int32) × (Nat → Nat → Int32) × (Nat → Nat → Int32) × (Nat → Nat → Int32) × (Nat → Nat → Int32) × (Nat → Nat → Int32) × (Nat → Nat → Int32))) (s_self s_grammar s_chart s_table s_grower s_grown s_joined s_row s_least s_next : Nat → Nat → Int32) (v1 : Int32) : Option ((Int32) × (Nat → Nat → Int32) × (Nat → Nat → Int32) × (Nat → Nat → Int32) × (Nat → Nat → Int32) × (Nat → Nat → Int32) × (Nat → Nat → Int32) × (Nat → Nat → Int32)) :=
  if (s_grammar 0 0) ≤ v1 then
    kx40 s_table s_grower s_grown s_joined s_least s_next
  else
    bd7 (m_Rt_isSound N n_grown n_joined n_row n_least n_next s_self s_grammar s_chart s_table s_grower s_grown s_joined s_row s_least s_next v1) fun r_2 s_table_3 s_grower_4 s_grown_5 s_joined_6 s_least_7 s_next_8 =>
    if r_2 = 0 then
      kx32 s_table_3 s_grower_4 s_grown_5 s_joined_6 s_least_7 s_next_8
    else
      nm (v1 + 1) fun v1_11 =>
      kb s_table_3 s_grower_4 s_grown_5 s_joined_6 s_least_7 s_next_8 v1_11
set_option maxHeartbeats 4000000 in
set_option maxRecDepth 100000 in
theorem t_Rt_check_13 {p : Program} {l : Launch} {e : Env} {s : State} {m : MethodId} {args : Array Value} {below : List Frame} {meth : Method} {c : Code} {A : Nat → Prop} {D : va_G} {K : Nat → ClassId} (a_self a_grammar a_chart a_table a_grower a_grown a_joined a_short a_row a_tape a_least a_next : Nat → Nat) (n_grown : Nat) (n_joined : Nat) (n_row : Nat) (n_least : Nat) (n_next : Nat) (X : gx p s m args c b_Rt_check 2 R_Rt w_Rt_check D classes (tyK K) A) (hr : meth.sig.returnType = some .int) (hlk : meth.locks = false) (N : Nat) (r : Int32) (f_chart f_table f_grower f_grown f_joined f_least f_next : Nat → Nat → Int32) (s_self s_grammar s_chart s_table s_grower s_grown s_joined s_row s_least s_next : Nat → Nat → Int32) (v1 : Int32) (kb : (Nat → Nat → Int32) → (Nat → Nat → Int32) → (Nat → Nat → Int32) → (Nat → Nat → Int32) → (Nat → Nat → Int32) → (Nat → Nat → Int32) → Int32 → Option ((Int32) × (Nat → Nat → Int32) × (Nat → Nat → Int32) × (Nat → Nat → Int32) × (Nat → Nat → Int32) × (Nat → Nat → Int32) × (Nat → Nat → Int32) × (Nat → Nat → Int32))) (hkb : ∀ (s_table s_grower s_grown s_joined s_least s_next : Nat → Nat → Int32) (v1 : Int32), kb s_table s_grower s_grown s_joined s_least s_next v1 = some (r, f_chart, f_table, f_grower, f_grown, f_joined, f_least, f_next) → Gd p l e rm_Rt_check s m args below meth c 0 0 (MQ below (sq D classes (tyK K) (some (.int r)) [wd_Rt K a_self (a_grammar 0) (a_chart 0) (a_grower 0) (a_short 0) (a_row 0) (a_tape 0) (a_least 0) (a_next 0) s_self, wd_Gr K a_grammar s_grammar, wd_Ch K a_chart (a_grammar 0) (a_table 0) f_chart, wd_Tt K a_table f_table, wd_Gw K a_grower (a_grammar 0) (a_grown 0) (a_joined 0) f_grower, wd_Sy K a_grown n_grown f_grown, wd_Sy K a_joined n_joined f_joined, wd_Sy K a_row n_row s_row, wd_Sy K a_least n_least f_least, wd_Sy K a_next n_next f_next] A) args s 0 0 A) D classes A 2 13 [wd_Rt K a_self (a_grammar 0) (a_chart 0) (a_grower 0) (a_short 0) (a_row 0) (a_tape 0) (a_least 0) (a_next 0) s_self, wd_Gr K a_grammar s_grammar, wd_Ch K a_chart (a_grammar 0) (a_table 0) s_chart, wd_Tt K a_table s_table, wd_Gw K a_grower (a_grammar 0) (a_grown 0) (a_joined 0) s_grower, wd_Sy K a_grown n_grown s_grown, wd_Sy K a_joined n_joined s_joined, wd_Sy K a_row n_row s_row, wd_Sy K a_least n_least s_least, wd_Sy K a_next n_next s_next] [(0, .ref (a_self 0)), (1, .int v1)] []) (kx32 : (Nat → Nat → Int32) → (Nat → Nat → Int32) → (Nat → Nat → Int32) → (Nat → Nat → Int32) → (Nat → Nat → Int32) → (Nat → Nat → Int32) → Option ((Int32) × (Nat → Nat → Int32) × (Nat → Nat → Int32) × (Nat → Nat → Int32) × (Nat → Nat → Int32) × (Nat → Nat → Int32) × (Nat → Nat → Int32) × (Nat → Nat → Int32))) (hkx32 : ∀ (s_table s_grower s_grown s_joined s_least s_next : Nat → Nat → Int32), kx32 s_table s_grower s_grown s_joined s_least s_next = some (r, f_chart, f_table, f_grower, f_grown, f_joined, f_least, f_next) → Gd p l e rm_Rt_check s m args below meth c 0 0 (MQ below (sq D classes (tyK K) (some (.int r)) [wd_Rt K a_self (a_grammar 0) (a_chart 0) (a_grower 0) (a_short 0) (a_row 0) (a_tape 0) (a_least 0) (a_next 0) s_self, wd_Gr K a_grammar s_grammar, wd_Ch K a_chart (a_grammar 0) (a_table 0) f_chart, wd_Tt K a_table f_table, wd_Gw K a_grower (a_grammar 0) (a_grown 0) (a_joined 0) f_grower, wd_Sy K a_grown n_grown f_grown, wd_Sy K a_joined n_joined f_joined, wd_Sy K a_row n_row s_row, wd_Sy K a_least n_least f_least, wd_Sy K a_next n_next f_next] A) args s 0 0 A) D classes A 2 32 [wd_Rt K a_self (a_grammar 0) (a_chart 0) (a_grower 0) (a_short 0) (a_row 0) (a_tape 0) (a_least 0) (a_next 0) s_self, wd_Gr K a_grammar s_grammar, wd_Ch K a_chart (a_grammar 0) (a_table 0) s_chart, wd_Tt K a_table s_table, wd_Gw K a_grower (a_grammar 0) (a_grown 0) (a_joined 0) s_grower, wd_Sy K a_grown n_grown s_grown, wd_Sy K a_joined n_joined s_joined, wd_Sy K a_row n_row s_row, wd_Sy K a_least n_least s_least, wd_Sy K a_next n_next s_next] [] []) (kx40 : (Nat → Nat → Int32) → (Nat → Nat → Int32) → (Nat → Nat → Int32) → (Nat → Nat → Int32) → (Nat → Nat → Int32) → (Nat → Nat → Int32) → Option ((Int32) × (Nat → Nat → Int32) × (Nat → Nat → Int32) × (Nat → Nat → Int32) × (Nat → Nat → Int32) × (Nat → Nat → Int32) × (Nat → Nat → Int32) × (Nat → Nat → Int32))) (hkx40 : ∀ (s_table s_grower s_grown s_joined s_least s_next : Nat → Nat → Int32), kx40 s_table s_grower s_grown s_joined s_least s_next = some (r, f_chart, f_table, f_grower, f_grown, f_joined, f_least, f_next) → Gd p l e rm_Rt_check s m args below meth c 0 0 (MQ below (sq D classes (tyK K) (some (.int r)) [wd_Rt K a_self (a_grammar 0) (a_chart 0) (a_grower 0) (a_short 0) (a_row 0) (a_tape 0) (a_least 0) (a_next 0) s_self, wd_Gr K a_grammar s_grammar, wd_Ch K a_chart (a_grammar 0) (a_table 0) f_chart, wd_Tt K a_table f_table, wd_Gw K a_grower (a_grammar 0) (a_grown 0) (a_joined 0) f_grower, wd_Sy K a_grown n_grown f_grown, wd_Sy K a_joined n_joined f_joined, wd_Sy K a_row n_row s_row, wd_Sy K a_least n_least f_least, wd_Sy K a_next n_next f_next] A) args s 0 0 A) D classes A 2 40 [wd_Rt K a_self (a_grammar 0) (a_chart 0) (a_grower 0) (a_short 0) (a_row 0) (a_tape 0) (a_least 0) (a_next 0) s_self, wd_Gr K a_grammar s_grammar, wd_Ch K a_chart (a_grammar 0) (a_table 0) s_chart, wd_Tt K a_table s_table, wd_Gw K a_grower (a_grammar 0) (a_grown 0) (a_joined 0) s_grower, wd_Sy K a_grown n_grown s_grown, wd_Sy K a_joined n_joined s_joined, wd_Sy K a_row n_row s_row, wd_Sy K a_least n_least s_least, wd_Sy K a_next n_next s_next] [] []) (h : f_Rt_check_13 N n_grown n_joined n_row n_least n_next kb kx32 kx40 s_self s_grammar s_chart s_table s_grower s_grown s_joined s_row s_least s_next v1 = some (r, f_chart, f_table, f_grower, f_grown, f_joined, f_least, f_next)) : Gd p l e rm_Rt_check s m args below meth c 0 0 (MQ below (sq D classes (tyK K) (some (.int r)) [wd_Rt K a_self (a_grammar 0) (a_chart 0) (a_grower 0) (a_short 0) (a_row 0) (a_tape 0) (a_least 0) (a_next 0) s_self, wd_Gr K a_grammar s_grammar, wd_Ch K a_chart (a_grammar 0) (a_table 0) f_chart, wd_Tt K a_table f_table, wd_Gw K a_grower (a_grammar 0) (a_grown 0) (a_joined 0) f_grower, wd_Sy K a_grown n_grown f_grown, wd_Sy K a_joined n_joined f_joined, wd_Sy K a_row n_row s_row, wd_Sy K a_least n_least f_least, wd_Sy K a_next n_next f_next] A) args s 0 0 A) D classes A 2 13 [wd_Rt K a_self (a_grammar 0) (a_chart 0) (a_grower 0) (a_short 0) (a_row 0) (a_tape 0) (a_least 0) (a_next 0) s_self, wd_Gr K a_grammar s_grammar, wd_Ch K a_chart (a_grammar 0) (a_table 0) s_chart, wd_Tt K a_table s_table, wd_Gw K a_grower (a_grammar 0) (a_grown 0) (a_joined 0) s_grower, wd_Sy K a_grown n_grown s_grown, wd_Sy K a_joined n_joined s_joined, wd_Sy K a_row n_row s_row, wd_Sy K a_least n_least s_least, wd_Sy K a_next n_next s_next] [(0, .ref (a_self 0)), (1, .int v1)] [] := by
  unfold f_Rt_check_13 at h
  refine gd_iload_n X d_Rt_check_13 1 rfl ?_
  refine gd_aload_n X d_Rt_check_14 0 rfl ?_
  refine gd_get X (ci := 6) (C := R_Rt) (T := F_Rt) (N := 9) (v := .ref (a_grammar 0)) 0 0 rfl rfl rfl (in_Rt _) 0 (by decide) (List.mem_cons_of_mem _ fl_Rt_12) rfl rfl d_Rt_check_15 ?_
  refine gd_get X (ci := 1) (C := R_Gr) (T := F_Gr) (N := 12) (v := .int (s_grammar 0 0)) 1 0 rfl rfl rfl (in_Gr _) 0 (by decide) (List.mem_cons_of_mem _ fl_Rt_155) rfl rfl d_Rt_check_18 ?_
  refine gd_icmp_ge X (tgt := 40) d_Rt_check_21 (by decide) (fun c_1 => ?_) (fun c_1 => ?_)
  · replace h := it_p c_1 h
    refine gd_loc (lv' := []) [] rfl ?_
    exact hkx40 s_table s_grower s_grown s_joined s_least s_next h
  · replace h := it_n c_1 h
    refine gd_aload_n X d_Rt_check_24 0 rfl ?_
    refine gd_iload_n X d_Rt_check_25 1 rfl ?_
    obtain ⟨r_2, s_table_3, s_grower_4, s_grown_5, s_joined_6, s_least_7, s_next_8, hc_9, h⟩ := bd7_e h
    refine gd_fI X (w1 := [wd_Rt K a_self (a_grammar 0) (a_chart 0) (a_grower 0) (a_short 0) (a_row 0) (a_tape 0) (a_least 0) (a_next 0) s_self, wd_Gr K a_grammar s_grammar, wd_Ch K a_chart (a_grammar 0) (a_table 0) s_chart, wd_Tt K a_table s_table_3, wd_Gw K a_grower (a_grammar 0) (a_grown 0) (a_joined 0) s_grower_4, wd_Sy K a_grown n_grown s_grown_5, wd_Sy K a_joined n_joined s_joined_6, wd_Sy K a_row n_row s_row, wd_Sy K a_least n_least s_least_7, wd_Sy K a_next n_next s_next_8]) (gd_V X (As := [.int v1]) (rest := []) (c_Rt_isSound l D K a_self a_grammar a_chart a_table a_grower a_grown a_joined a_short a_row a_tape a_least a_next n_grown n_joined n_row n_least n_next N s_self s_grammar s_chart s_table s_grower s_grown s_joined s_row s_least s_next v1 r_2 s_table_3 s_grower_4 s_grown_5 s_joined_6 s_least_7 s_next_8 hc_9) 1 (gi_V ml_Rt_167 u_Rt_isSound) rfl ⟨rfl, rfl⟩ (by decide +kernel) ⟨by decide, by decide⟩ (ci := 6) rfl rfl rfl rfl rfl rfl (Nat.le_of_ble_eq_true rfl) ⟨Nat.zero_le _, Nat.zero_le _⟩ d_Rt_check_26) ?_
    refine gd_if_ne X (tgt := 34) d_Rt_check_29 (by decide) (fun c_10 => ?_) (fun c_10 => ?_)
    · replace h := it_n c_10 h
      obtain ⟨v1_11, ev1_11, h⟩ := nm_e' h
      refine gd_iinc X (v := v1_11) (lv' := [(1, .int v1_11), (0, .ref (a_self 0))]) d_Rt_check_34 (k := 1) rfl (by rw [ev1_11]; rfl) (by decide) rfl ?_
      refine gd_goto X (tgt := 13) d_Rt_check_37 (by decide) ?_
      refine gd_loc (lv' := [(0, .ref (a_self 0)), (1, .int v1_11)]) [1, 0] rfl ?_
      exact hkb s_table_3 s_grower_4 s_grown_5 s_joined_6 s_least_7 s_next_8 v1_11 h
    · replace h := it_p c_10 h
      refine gd_loc (lv' := []) [] rfl ?_
      exact hkx32 s_table_3 s_grower_4 s_grown_5 s_joined_6 s_least_7 s_next_8 h
def f_Rt_check_32 (N : Nat) (n_grown : Nat) (n_joined : Nat) (n_row : Nat) (n_least : Nat) (n_next : Nat) (s_self s_grammar s_chart s_table s_grower s_grown s_joined s_row s_least s_next : Nat → Nat → Int32) : Option ((Int32) × (Nat → Nat → Int32) × (Nat → Nat → Int32) × (Nat → Nat → Int32) × (Nat → Nat → Int32) × (Nat → Nat → Int32) × (Nat → Nat → Int32) × (Nat → Nat → Int32)) :=
  some ((0), s_chart, s_table, s_grower, s_grown, s_joined, s_least, s_next)
set_option maxHeartbeats 4000000 in
set_option maxRecDepth 100000 in
theorem t_Rt_check_32 {p : Program} {l : Launch} {e : Env} {s : State} {m : MethodId} {args : Array Value} {below : List Frame} {meth : Method} {c : Code} {A : Nat → Prop} {D : va_G} {K : Nat → ClassId} (a_self a_grammar a_chart a_table a_grower a_grown a_joined a_short a_row a_tape a_least a_next : Nat → Nat) (n_grown : Nat) (n_joined : Nat) (n_row : Nat) (n_least : Nat) (n_next : Nat) (X : gx p s m args c b_Rt_check 2 R_Rt w_Rt_check D classes (tyK K) A) (hr : meth.sig.returnType = some .int) (hlk : meth.locks = false) (N : Nat) (r : Int32) (f_chart f_table f_grower f_grown f_joined f_least f_next : Nat → Nat → Int32) (s_self s_grammar s_chart s_table s_grower s_grown s_joined s_row s_least s_next : Nat → Nat → Int32) (h : f_Rt_check_32 N n_grown n_joined n_row n_least n_next s_self s_grammar s_chart s_table s_grower s_grown s_joined s_row s_least s_next = some (r, f_chart, f_table, f_grower, f_grown, f_joined, f_least, f_next)) : Gd p l e rm_Rt_check s m args below meth c 0 0 (MQ below (sq D classes (tyK K) (some (.int r)) [wd_Rt K a_self (a_grammar 0) (a_chart 0) (a_grower 0) (a_short 0) (a_row 0) (a_tape 0) (a_least 0) (a_next 0) s_self, wd_Gr K a_grammar s_grammar, wd_Ch K a_chart (a_grammar 0) (a_table 0) f_chart, wd_Tt K a_table f_table, wd_Gw K a_grower (a_grammar 0) (a_grown 0) (a_joined 0) f_grower, wd_Sy K a_grown n_grown f_grown, wd_Sy K a_joined n_joined f_joined, wd_Sy K a_row n_row s_row, wd_Sy K a_least n_least f_least, wd_Sy K a_next n_next f_next] A) args s 0 0 A) D classes A 2 32 [wd_Rt K a_self (a_grammar 0) (a_chart 0) (a_grower 0) (a_short 0) (a_row 0) (a_tape 0) (a_least 0) (a_next 0) s_self, wd_Gr K a_grammar s_grammar, wd_Ch K a_chart (a_grammar 0) (a_table 0) s_chart, wd_Tt K a_table s_table, wd_Gw K a_grower (a_grammar 0) (a_grown 0) (a_joined 0) s_grower, wd_Sy K a_grown n_grown s_grown, wd_Sy K a_joined n_joined s_joined, wd_Sy K a_row n_row s_row, wd_Sy K a_least n_least s_least, wd_Sy K a_next n_next s_next] [] [] := by
  unfold f_Rt_check_32 at h
  refine gd_iconst X (v := 0) d_Rt_check_32 (by decide) ?_
  cases h
  exact gd_iret X hr hlk d_Rt_check_33
def f_Rt_check_40 (N : Nat) (n_grown : Nat) (n_joined : Nat) (n_row : Nat) (n_least : Nat) (n_next : Nat) (s_self s_grammar s_chart s_table s_grower s_grown s_joined s_row s_least s_next : Nat → Nat → Int32) : Option ((Int32) × (Nat → Nat → Int32) × (Nat → Nat → Int32) × (Nat → Nat → Int32) × (Nat → Nat → Int32) × (Nat → Nat → Int32) × (Nat → Nat → Int32) × (Nat → Nat → Int32)) :=
  some ((1), s_chart, s_table, s_grower, s_grown, s_joined, s_least, s_next)
set_option maxHeartbeats 4000000 in
set_option maxRecDepth 100000 in
theorem t_Rt_check_40 {p : Program} {l : Launch} {e : Env} {s : State} {m : MethodId} {args : Array Value} {below : List Frame} {meth : Method} {c : Code} {A : Nat → Prop} {D : va_G} {K : Nat → ClassId} (a_self a_grammar a_chart a_table a_grower a_grown a_joined a_short a_row a_tape a_least a_next : Nat → Nat) (n_grown : Nat) (n_joined : Nat) (n_row : Nat) (n_least : Nat) (n_next : Nat) (X : gx p s m args c b_Rt_check 2 R_Rt w_Rt_check D classes (tyK K) A) (hr : meth.sig.returnType = some .int) (hlk : meth.locks = false) (N : Nat) (r : Int32) (f_chart f_table f_grower f_grown f_joined f_least f_next : Nat → Nat → Int32) (s_self s_grammar s_chart s_table s_grower s_grown s_joined s_row s_least s_next : Nat → Nat → Int32) (h : f_Rt_check_40 N n_grown n_joined n_row n_least n_next s_self s_grammar s_chart s_table s_grower s_grown s_joined s_row s_least s_next = some (r, f_chart, f_table, f_grower, f_grown, f_joined, f_least, f_next)) : Gd p l e rm_Rt_check s m args below meth c 0 0 (MQ below (sq D classes (tyK K) (some (.int r)) [wd_Rt K a_self (a_grammar 0) (a_chart 0) (a_grower 0) (a_short 0) (a_row 0) (a_tape 0) (a_least 0) (a_next 0) s_self, wd_Gr K a_grammar s_grammar, wd_Ch K a_chart (a_grammar 0) (a_table 0) f_chart, wd_Tt K a_table f_table, wd_Gw K a_grower (a_grammar 0) (a_grown 0) (a_joined 0) f_grower, wd_Sy K a_grown n_grown f_grown, wd_Sy K a_joined n_joined f_joined, wd_Sy K a_row n_row s_row, wd_Sy K a_least n_least f_least, wd_Sy K a_next n_next f_next] A) args s 0 0 A) D classes A 2 40 [wd_Rt K a_self (a_grammar 0) (a_chart 0) (a_grower 0) (a_short 0) (a_row 0) (a_tape 0) (a_least 0) (a_next 0) s_self, wd_Gr K a_grammar s_grammar, wd_Ch K a_chart (a_grammar 0) (a_table 0) s_chart, wd_Tt K a_table s_table, wd_Gw K a_grower (a_grammar 0) (a_grown 0) (a_joined 0) s_grower, wd_Sy K a_grown n_grown s_grown, wd_Sy K a_joined n_joined s_joined, wd_Sy K a_row n_row s_row, wd_Sy K a_least n_least s_least, wd_Sy K a_next n_next s_next] [] [] := by
  unfold f_Rt_check_40 at h
  refine gd_iconst X (v := 1) d_Rt_check_40 (by decide) ?_
  cases h
  exact gd_iret X hr hlk d_Rt_check_41
def l_Rt_check_13 (N : Nat) (n_grown : Nat) (n_joined : Nat) (n_row : Nat) (n_least : Nat) (n_next : Nat) (s_self s_grammar s_chart s_row : Nat → Nat → Int32) (kx32 : (Nat → Nat → Int32) → (Nat → Nat → Int32) → (Nat → Nat → Int32) → (Nat → Nat → Int32) → (Nat → Nat → Int32) → (Nat → Nat → Int32) → Option ((Int32) × (Nat → Nat → Int32) × (Nat → Nat → Int32) × (Nat → Nat → Int32) × (Nat → Nat → Int32) × (Nat → Nat → Int32) × (Nat → Nat → Int32) × (Nat → Nat → Int32))) (kx40 : (Nat → Nat → Int32) → (Nat → Nat → Int32) → (Nat → Nat → Int32) → (Nat → Nat → Int32) → (Nat → Nat → Int32) → (Nat → Nat → Int32) → Option ((Int32) × (Nat → Nat → Int32) × (Nat → Nat → Int32) × (Nat → Nat → Int32) × (Nat → Nat → Int32) × (Nat → Nat → Int32) × (Nat → Nat → Int32) × (Nat → Nat → Int32))) : Nat → (Nat → Nat → Int32) → (Nat → Nat → Int32) → (Nat → Nat → Int32) → (Nat → Nat → Int32) → (Nat → Nat → Int32) → (Nat → Nat → Int32) → Int32 → Option ((Int32) × (Nat → Nat → Int32) × (Nat → Nat → Int32) × (Nat → Nat → Int32) × (Nat → Nat → Int32) × (Nat → Nat → Int32) × (Nat → Nat → Int32) × (Nat → Nat → Int32))
  | 0, _, _, _, _, _, _, _ => none
  | n + 1, s_table, s_grower, s_grown, s_joined, s_least, s_next, v1 => f_Rt_check_13 N n_grown n_joined n_row n_least n_next (l_Rt_check_13 N n_grown n_joined n_row n_least n_next s_self s_grammar s_chart s_row kx32 kx40 n) kx32 kx40 s_self s_grammar s_chart s_table s_grower s_grown s_joined s_row s_least s_next v1
set_option maxHeartbeats 4000000 in
set_option maxRecDepth 100000 in
theorem tl_Rt_check_13 {p : Program} {l : Launch} {e : Env} {s : State} {m : MethodId} {args : Array Value} {below : List Frame} {meth : Method} {c : Code} {A : Nat → Prop} {D : va_G} {K : Nat → ClassId} (a_self a_grammar a_chart a_table a_grower a_grown a_joined a_short a_row a_tape a_least a_next : Nat → Nat) (n_grown : Nat) (n_joined : Nat) (n_row : Nat) (n_least : Nat) (n_next : Nat) (X : gx p s m args c b_Rt_check 2 R_Rt w_Rt_check D classes (tyK K) A) (hr : meth.sig.returnType = some .int) (hlk : meth.locks = false) (N : Nat) (r : Int32) (f_chart f_table f_grower f_grown f_joined f_least f_next : Nat → Nat → Int32) (s_self s_grammar s_chart s_row : Nat → Nat → Int32) (kx32 : (Nat → Nat → Int32) → (Nat → Nat → Int32) → (Nat → Nat → Int32) → (Nat → Nat → Int32) → (Nat → Nat → Int32) → (Nat → Nat → Int32) → Option ((Int32) × (Nat → Nat → Int32) × (Nat → Nat → Int32) × (Nat → Nat → Int32) × (Nat → Nat → Int32) × (Nat → Nat → Int32) × (Nat → Nat → Int32) × (Nat → Nat → Int32))) (hkx32 : ∀ (s_table s_grower s_grown s_joined s_least s_next : Nat → Nat → Int32), kx32 s_table s_grower s_grown s_joined s_least s_next = some (r, f_chart, f_table, f_grower, f_grown, f_joined, f_least, f_next) → Gd p l e rm_Rt_check s m args below meth c 0 0 (MQ below (sq D classes (tyK K) (some (.int r)) [wd_Rt K a_self (a_grammar 0) (a_chart 0) (a_grower 0) (a_short 0) (a_row 0) (a_tape 0) (a_least 0) (a_next 0) s_self, wd_Gr K a_grammar s_grammar, wd_Ch K a_chart (a_grammar 0) (a_table 0) f_chart, wd_Tt K a_table f_table, wd_Gw K a_grower (a_grammar 0) (a_grown 0) (a_joined 0) f_grower, wd_Sy K a_grown n_grown f_grown, wd_Sy K a_joined n_joined f_joined, wd_Sy K a_row n_row s_row, wd_Sy K a_least n_least f_least, wd_Sy K a_next n_next f_next] A) args s 0 0 A) D classes A 2 32 [wd_Rt K a_self (a_grammar 0) (a_chart 0) (a_grower 0) (a_short 0) (a_row 0) (a_tape 0) (a_least 0) (a_next 0) s_self, wd_Gr K a_grammar s_grammar, wd_Ch K a_chart (a_grammar 0) (a_table 0) s_chart, wd_Tt K a_table s_table, wd_Gw K a_grower (a_grammar 0) (a_grown 0) (a_joined 0) s_grower, wd_Sy K a_grown n_grown s_grown, wd_Sy K a_joined n_joined s_joined, wd_Sy K a_row n_row s_row, wd_Sy K a_least n_least s_least, wd_Sy K a_next n_next s_next] [] []) (kx40 : (Nat → Nat → Int32) → (Nat → Nat → Int32) → (Nat → Nat → Int32) → (Nat → Nat → Int32) → (Nat → Nat → Int32) → (Nat → Nat → Int32) → Option ((Int32) × (Nat → Nat → Int32) × (Nat → Nat → Int32) × (Nat → Nat → Int32) × (Nat → Nat → Int32) × (Nat → Nat → Int32) × (Nat → Nat → Int32) × (Nat → Nat → Int32))) (hkx40 : ∀ (s_table s_grower s_grown s_joined s_least s_next : Nat → Nat → Int32), kx40 s_table s_grower s_grown s_joined s_least s_next = some (r, f_chart, f_table, f_grower, f_grown, f_joined, f_least, f_next) → Gd p l e rm_Rt_check s m args below meth c 0 0 (MQ below (sq D classes (tyK K) (some (.int r)) [wd_Rt K a_self (a_grammar 0) (a_chart 0) (a_grower 0) (a_short 0) (a_row 0) (a_tape 0) (a_least 0) (a_next 0) s_self, wd_Gr K a_grammar s_grammar, wd_Ch K a_chart (a_grammar 0) (a_table 0) f_chart, wd_Tt K a_table f_table, wd_Gw K a_grower (a_grammar 0) (a_grown 0) (a_joined 0) f_grower, wd_Sy K a_grown n_grown f_grown, wd_Sy K a_joined n_joined f_joined, wd_Sy K a_row n_row s_row, wd_Sy K a_least n_least f_least, wd_Sy K a_next n_next f_next] A) args s 0 0 A) D classes A 2 40 [wd_Rt K a_self (a_grammar 0) (a_chart 0) (a_grower 0) (a_short 0) (a_row 0) (a_tape 0) (a_least 0) (a_next 0) s_self, wd_Gr K a_grammar s_grammar, wd_Ch K a_chart (a_grammar 0) (a_table 0) s_chart, wd_Tt K a_table s_table, wd_Gw K a_grower (a_grammar 0) (a_grown 0) (a_joined 0) s_grower, wd_Sy K a_grown n_grown s_grown, wd_Sy K a_joined n_joined s_joined, wd_Sy K a_row n_row s_row, wd_Sy K a_least n_least s_least, wd_Sy K a_next n_next s_next] [] []) : ∀ (n : Nat) (s_table s_grower s_grown s_joined s_least s_next : Nat → Nat → Int32) (v1 : Int32), l_Rt_check_13 N n_grown n_joined n_row n_least n_next s_self s_grammar s_chart s_row kx32 kx40 n s_table s_grower s_grown s_joined s_least s_next v1 = some (r, f_chart, f_table, f_grower, f_grown, f_joined, f_least, f_next) → Gd p l e rm_Rt_check s m args below meth c 0 0 (MQ below (sq D classes (tyK K) (some (.int r)) [wd_Rt K a_self (a_grammar 0) (a_chart 0) (a_grower 0) (a_short 0) (a_row 0) (a_tape 0) (a_least 0) (a_next 0) s_self, wd_Gr K a_grammar s_grammar, wd_Ch K a_chart (a_grammar 0) (a_table 0) f_chart, wd_Tt K a_table f_table, wd_Gw K a_grower (a_grammar 0) (a_grown 0) (a_joined 0) f_grower, wd_Sy K a_grown n_grown f_grown, wd_Sy K a_joined n_joined f_joined, wd_Sy K a_row n_row s_row, wd_Sy K a_least n_least f_least, wd_Sy K a_next n_next f_next] A) args s 0 0 A) D classes A 2 13 [wd_Rt K a_self (a_grammar 0) (a_chart 0) (a_grower 0) (a_short 0) (a_row 0) (a_tape 0) (a_least 0) (a_next 0) s_self, wd_Gr K a_grammar s_grammar, wd_Ch K a_chart (a_grammar 0) (a_table 0) s_chart, wd_Tt K a_table s_table, wd_Gw K a_grower (a_grammar 0) (a_grown 0) (a_joined 0) s_grower, wd_Sy K a_grown n_grown s_grown, wd_Sy K a_joined n_joined s_joined, wd_Sy K a_row n_row s_row, wd_Sy K a_least n_least s_least, wd_Sy K a_next n_next s_next] [(0, .ref (a_self 0)), (1, .int v1)] [] := by
  intro n
  induction n with
  | zero => intro s_table s_grower s_grown s_joined s_least s_next v1 h; have h : (none : Option ((Int32) × (Nat → Nat → Int32) × (Nat → Nat → Int32) × (Nat → Nat → Int32) × (Nat → Nat → Int32) × (Nat → Nat → Int32) × (Nat → Nat → Int32) × (Nat → Nat → Int32))) = some _ := h; cases h
  | succ n ih =>
    intro s_table s_grower s_grown s_joined s_least s_next v1 h
    exact t_Rt_check_13 a_self a_grammar a_chart a_table a_grower a_grown a_joined a_short a_row a_tape a_least a_next n_grown n_joined n_row n_least n_next X hr hlk N r f_chart f_table f_grower f_grown f_joined f_least f_next s_self s_grammar s_chart s_table s_grower s_grown s_joined s_row s_least s_next v1 (l_Rt_check_13 N n_grown n_joined n_row n_least n_next s_self s_grammar s_chart s_row kx32 kx40 n) ih kx32 hkx32 kx40 hkx40 h
def f_Rt_check_0 (N : Nat) (n_grown : Nat) (n_joined : Nat) (n_row : Nat) (n_least : Nat) (n_next : Nat) (s_self s_grammar s_chart s_table s_grower s_grown s_joined s_row s_least s_next : Nat → Nat → Int32) : Option ((Int32) × (Nat → Nat → Int32) × (Nat → Nat → Int32) × (Nat → Nat → Int32) × (Nat → Nat → Int32) × (Nat → Nat → Int32) × (Nat → Nat → Int32) × (Nat → Nat → Int32)) :=
  bd2 (m_Ch_catchUp N n_row s_chart s_grammar s_table s_row) fun s_chart_1 s_table_2 =>
  l_Rt_check_13 N n_grown n_joined n_row n_least n_next s_self s_grammar s_chart_1 s_row (fun s_table s_grower s_grown s_joined s_least s_next => f_Rt_check_32 N n_grown n_joined n_row n_least n_next s_self s_grammar s_chart_1 s_table s_grower s_grown s_joined s_row s_least s_next) (fun s_table s_grower s_grown s_joined s_least s_next => f_Rt_check_40 N n_grown n_joined n_row n_least n_next s_self s_grammar s_chart_1 s_table s_grower s_grown s_joined s_row s_least s_next) N s_table_2 s_grower s_grown s_joined s_least s_next 0
set_option maxHeartbeats 4000000 in
set_option maxRecDepth 100000 in
theorem t_Rt_check_0 {p : Program} {l : Launch} {e : Env} {s : State} {m : MethodId} {args : Array Value} {below : List Frame} {meth : Method} {c : Code} {A : Nat → Prop} {D : va_G} {K : Nat → ClassId} (a_self a_grammar a_chart a_table a_grower a_grown a_joined a_short a_row a_tape a_least a_next : Nat → Nat) (n_grown : Nat) (n_joined : Nat) (n_row : Nat) (n_least : Nat) (n_next : Nat) (X : gx p s m args c b_Rt_check 2 R_Rt w_Rt_check D classes (tyK K) A) (hr : meth.sig.returnType = some .int) (hlk : meth.locks = false) (N : Nat) (r : Int32) (f_chart f_table f_grower f_grown f_joined f_least f_next : Nat → Nat → Int32) (s_self s_grammar s_chart s_table s_grower s_grown s_joined s_row s_least s_next : Nat → Nat → Int32) (h : f_Rt_check_0 N n_grown n_joined n_row n_least n_next s_self s_grammar s_chart s_table s_grower s_grown s_joined s_row s_least s_next = some (r, f_chart, f_table, f_grower, f_grown, f_joined, f_least, f_next)) : Gd p l e rm_Rt_check s m args below meth c 0 0 (MQ below (sq D classes (tyK K) (some (.int r)) [wd_Rt K a_self (a_grammar 0) (a_chart 0) (a_grower 0) (a_short 0) (a_row 0) (a_tape 0) (a_least 0) (a_next 0) s_self, wd_Gr K a_grammar s_grammar, wd_Ch K a_chart (a_grammar 0) (a_table 0) f_chart, wd_Tt K a_table f_table, wd_Gw K a_grower (a_grammar 0) (a_grown 0) (a_joined 0) f_grower, wd_Sy K a_grown n_grown f_grown, wd_Sy K a_joined n_joined f_joined, wd_Sy K a_row n_row s_row, wd_Sy K a_least n_least f_least, wd_Sy K a_next n_next f_next] A) args s 0 0 A) D classes A 2 0 [wd_Rt K a_self (a_grammar 0) (a_chart 0) (a_grower 0) (a_short 0) (a_row 0) (a_tape 0) (a_least 0) (a_next 0) s_self, wd_Gr K a_grammar s_grammar, wd_Ch K a_chart (a_grammar 0) (a_table 0) s_chart, wd_Tt K a_table s_table, wd_Gw K a_grower (a_grammar 0) (a_grown 0) (a_joined 0) s_grower, wd_Sy K a_grown n_grown s_grown, wd_Sy K a_joined n_joined s_joined, wd_Sy K a_row n_row s_row, wd_Sy K a_least n_least s_least, wd_Sy K a_next n_next s_next] [(0, .ref (a_self 0))] [] := by
  unfold f_Rt_check_0 at h
  refine gd_aload_n X d_Rt_check_0 0 rfl ?_
  refine gd_get X (ci := 6) (C := R_Rt) (T := F_Rt) (N := 9) (v := .ref (a_chart 0)) 0 0 rfl rfl rfl (in_Rt _) 1 (by decide) (List.mem_cons_of_mem _ fl_Rt_21) rfl rfl d_Rt_check_1 ?_
  refine gd_aload_n X d_Rt_check_4 0 rfl ?_
  refine gd_get X (ci := 6) (C := R_Rt) (T := F_Rt) (N := 9) (v := .ref (a_row 0)) 0 0 rfl rfl rfl (in_Rt _) 4 (by decide) (List.mem_cons_of_mem _ fl_Rt_44) rfl rfl d_Rt_check_5 ?_
  obtain ⟨s_chart_1, s_table_2, hc_3, h⟩ := bd2_e h
  refine gd_cv X (gd_V X (As := [.ref (a_row 0)]) (rest := []) (c_Ch_catchUp l D K a_chart a_grammar a_table a_row n_row N s_chart s_grammar s_table s_row s_chart_1 s_table_2 hc_3) 1 (gi_V ml_Rt_94 u_Ch_catchUp) rfl ⟨rfl, rfl⟩ (by decide +kernel) ⟨by decide, by decide⟩ (ci := 3) rfl rfl rfl rfl rfl rfl (Nat.le_of_ble_eq_true rfl) ⟨Nat.zero_le _, Nat.zero_le _⟩ d_Rt_check_8) (w2 := [wd_Rt K a_self (a_grammar 0) (a_chart 0) (a_grower 0) (a_short 0) (a_row 0) (a_tape 0) (a_least 0) (a_next 0) s_self, wd_Gr K a_grammar s_grammar, wd_Ch K a_chart (a_grammar 0) (a_table 0) s_chart_1, wd_Tt K a_table s_table_2, wd_Gw K a_grower (a_grammar 0) (a_grown 0) (a_joined 0) s_grower, wd_Sy K a_grown n_grown s_grown, wd_Sy K a_joined n_joined s_joined, wd_Sy K a_row n_row s_row, wd_Sy K a_least n_least s_least, wd_Sy K a_next n_next s_next]) [2, 1, 3, 7] [0, 4, 5, 6, 8, 9] rfl rfl rfl rfl ⟨rfl, rfl⟩ rfl ?_
  refine gd_iconst X (v := 0) d_Rt_check_11 (by decide) ?_
  refine gd_istore_n X (lv' := [(1, .int 0), (0, .ref (a_self 0))]) d_Rt_check_12 rfl (by decide) rfl ?_
  refine gd_loc (lv' := [(0, .ref (a_self 0)), (1, .int 0)]) [1, 0] rfl ?_
  exact tl_Rt_check_13 a_self a_grammar a_chart a_table a_grower a_grown a_joined a_short a_row a_tape a_least a_next n_grown n_joined n_row n_least n_next X hr hlk N r f_chart f_table f_grower f_grown f_joined f_least f_next s_self s_grammar s_chart_1 s_row (fun s_table s_grower s_grown s_joined s_least s_next => f_Rt_check_32 N n_grown n_joined n_row n_least n_next s_self s_grammar s_chart_1 s_table s_grower s_grown s_joined s_row s_least s_next) (fun s_table s_grower s_grown s_joined s_least s_next h => t_Rt_check_32 a_self a_grammar a_chart a_table a_grower a_grown a_joined a_short a_row a_tape a_least a_next n_grown n_joined n_row n_least n_next X hr hlk N r f_chart f_table f_grower f_grown f_joined f_least f_next s_self s_grammar s_chart_1 s_table s_grower s_grown s_joined s_row s_least s_next h) (fun s_table s_grower s_grown s_joined s_least s_next => f_Rt_check_40 N n_grown n_joined n_row n_least n_next s_self s_grammar s_chart_1 s_table s_grower s_grown s_joined s_row s_least s_next) (fun s_table s_grower s_grown s_joined s_least s_next h => t_Rt_check_40 a_self a_grammar a_chart a_table a_grower a_grown a_joined a_short a_row a_tape a_least a_next n_grown n_joined n_row n_least n_next X hr hlk N r f_chart f_table f_grower f_grown f_joined f_least f_next s_self s_grammar s_chart_1 s_table s_grower s_grown s_joined s_row s_least s_next h) N s_table_2 s_grower s_grown s_joined s_least s_next 0 h
def m_Rt_check (N : Nat) (n_grown : Nat) (n_joined : Nat) (n_row : Nat) (n_least : Nat) (n_next : Nat) (s_self s_grammar s_chart s_table s_grower s_grown s_joined s_row s_least s_next : Nat → Nat → Int32) : Option ((Int32) × (Nat → Nat → Int32) × (Nat → Nat → Int32) × (Nat → Nat → Int32) × (Nat → Nat → Int32) × (Nat → Nat → Int32) × (Nat → Nat → Int32) × (Nat → Nat → Int32)) := f_Rt_check_0 N n_grown n_joined n_row n_least n_next s_self s_grammar s_chart s_table s_grower s_grown s_joined s_row s_least s_next
set_option maxHeartbeats 4000000 in
set_option maxRecDepth 100000 in
theorem c_Rt_check (l : Launch) (D : va_G) (K : Nat → ClassId) (a_self a_grammar a_chart a_table a_grower a_grown a_joined a_short a_row a_tape a_least a_next : Nat → Nat) (n_grown : Nat) (n_joined : Nat) (n_row : Nat) (n_least : Nat) (n_next : Nat) (N : Nat) (s_self s_grammar s_chart s_table s_grower s_grown s_joined s_row s_least s_next : Nat → Nat → Int32) (r : Int32) (f_chart f_table f_grower f_grown f_joined f_least f_next : Nat → Nat → Int32) (h : m_Rt_check N n_grown n_joined n_row n_least n_next s_self s_grammar s_chart s_table s_grower s_grown s_joined s_row s_least s_next = some (r, f_chart, f_table, f_grower, f_grown, f_joined, f_least, f_next)) : SMet l y_Rt_check w_Rt_check rm_Rt_check D classes (tyK K) [.ref (a_self 0)] (some (.int r)) [wd_Rt K a_self (a_grammar 0) (a_chart 0) (a_grower 0) (a_short 0) (a_row 0) (a_tape 0) (a_least 0) (a_next 0) s_self, wd_Gr K a_grammar s_grammar, wd_Ch K a_chart (a_grammar 0) (a_table 0) s_chart, wd_Tt K a_table s_table, wd_Gw K a_grower (a_grammar 0) (a_grown 0) (a_joined 0) s_grower, wd_Sy K a_grown n_grown s_grown, wd_Sy K a_joined n_joined s_joined, wd_Sy K a_row n_row s_row, wd_Sy K a_least n_least s_least, wd_Sy K a_next n_next s_next] [wd_Rt K a_self (a_grammar 0) (a_chart 0) (a_grower 0) (a_short 0) (a_row 0) (a_tape 0) (a_least 0) (a_next 0) s_self, wd_Gr K a_grammar s_grammar, wd_Ch K a_chart (a_grammar 0) (a_table 0) f_chart, wd_Tt K a_table f_table, wd_Gw K a_grower (a_grammar 0) (a_grown 0) (a_joined 0) f_grower, wd_Sy K a_grown n_grown f_grown, wd_Sy K a_joined n_joined f_joined, wd_Sy K a_row n_row s_row, wd_Sy K a_least n_least f_least, wd_Sy K a_next n_next f_next] := by
  refine sm_of R_Rt (by decide) rfl rfl (Nat.le_of_ble_eq_true rfl) ?_
  intro p e s m below meth c A X hr hlk
  refine gd_loc (lv' := [(0, .ref (a_self 0))]) [0] rfl ?_
  exact t_Rt_check_0 a_self a_grammar a_chart a_table a_grower a_grown a_joined a_short a_row a_tape a_least a_next n_grown n_joined n_row n_least n_next X hr hlk N r f_chart f_table f_grower f_grown f_joined f_least f_next s_self s_grammar s_chart s_table s_grower s_grown s_joined s_row s_least s_next h
abbrev b_Md_isSort : ByteArray := prog_10_method_3_code
def y_Md_isSort : MethodName := ⟨R_Md, "isSort", "(I)Z"⟩
def w_Md_isSort : List Cond := .code y_Md_isSort b_Md_isSort 2 (some .boolean) :: TB
theorem k_Md_isSort : Cond.code y_Md_isSort b_Md_isSort 2 (some .boolean) ∈ TB := tb_of 842 (by decide +kernel) (by decide +kernel)
theorem d_Md_isSort_0 : decode b_Md_isSort 0 = .ok (.iload_n 1, 1) := by decide +kernel
theorem d_Md_isSort_1 : decode b_Md_isSort 1 = .ok (.ifCond .lt 15, 3) := by decide +kernel
theorem d_Md_isSort_4 : decode b_Md_isSort 4 = .ok (.iload_n 1, 1) := by decide +kernel
theorem d_Md_isSort_5 : decode b_Md_isSort 5 = .ok (.aload_n 0, 1) := by decide +kernel
theorem d_Md_isSort_6 : decode b_Md_isSort 6 = .ok (.getfield 89, 3) := by decide +kernel
theorem d_Md_isSort_9 : decode b_Md_isSort 9 = .ok (.if_icmp .ge 7, 3) := by decide +kernel
theorem d_Md_isSort_12 : decode b_Md_isSort 12 = .ok (.iconst 1, 1) := by decide +kernel
theorem d_Md_isSort_13 : decode b_Md_isSort 13 = .ok (.goto 4, 3) := by decide +kernel
theorem d_Md_isSort_16 : decode b_Md_isSort 16 = .ok (.iconst 0, 1) := by decide +kernel
theorem d_Md_isSort_17 : decode b_Md_isSort 17 = .ok (.ireturn, 1) := by decide +kernel
theorem fl_Md_89 : Cond.fieldLink R_Md 89 "RuleTreesModel" "sorts" "I" ∈ TB := tb_of 721 (by decide +kernel) (by decide +kernel)
abbrev rm_Md_isSort : Room := { frames := 0, cells := 0, slots := 0, locals := 0 }
def f_Md_isSort_0 (s_self : Nat → Nat → Int32) (v1 : Int32) : Option ((Int32)) :=
  if v1 < 0 then
    some (0)
  else
    if (s_self 0 1) ≤ v1 then
      some (0)
    else
      some (1)
set_option maxHeartbeats 4000000 in
set_option maxRecDepth 100000 in
theorem t_Md_isSort_0 {p : Program} {l : Launch} {e : Env} {s : State} {m : MethodId} {args : Array Value} {below : List Frame} {meth : Method} {c : Code} {A : Nat → Prop} {D : va_G} {K : Nat → ClassId} (a_self a_least : Nat → Nat) (X : gx p s m args c b_Md_isSort 2 R_Md w_Md_isSort D classes (tyK K) A) (hr : meth.sig.returnType = some .boolean) (hlk : meth.locks = false) (r : Int32) (s_self : Nat → Nat → Int32) (v1 : Int32) (h : f_Md_isSort_0 s_self v1 = some r) : Gd p l e rm_Md_isSort s m args below meth c 0 0 (MQ below (sq D classes (tyK K) (some (.int r)) [wd_Md K a_self (a_least 0) s_self] A) args s 0 0 A) D classes A 2 0 [wd_Md K a_self (a_least 0) s_self] [(0, .ref (a_self 0)), (1, .int v1)] [] := by
  unfold f_Md_isSort_0 at h
  refine gd_iload_n X d_Md_isSort_0 1 rfl ?_
  refine gd_if_lt X (tgt := 16) d_Md_isSort_1 (by decide) (fun c_1 => ?_) (fun c_1 => ?_)
  · replace h := it_p c_1 h
    refine gd_iconst X (v := 0) d_Md_isSort_16 (by decide) ?_
    cases h
    exact gd_zret X hr hlk (by decide) d_Md_isSort_17
  · replace h := it_n c_1 h
    refine gd_iload_n X d_Md_isSort_4 1 rfl ?_
    refine gd_aload_n X d_Md_isSort_5 0 rfl ?_
    refine gd_get X (ci := 7) (C := R_Md) (T := F_Md) (N := 36) (v := .int (s_self 0 1)) 0 0 rfl rfl rfl (in_Md _) 1 (by decide) (List.mem_cons_of_mem _ fl_Md_89) rfl rfl d_Md_isSort_6 ?_
    refine gd_icmp_ge X (tgt := 16) d_Md_isSort_9 (by decide) (fun c_2 => ?_) (fun c_2 => ?_)
    · replace h := it_p c_2 h
      refine gd_iconst X (v := 0) d_Md_isSort_16 (by decide) ?_
      cases h
      exact gd_zret X hr hlk (by decide) d_Md_isSort_17
    · replace h := it_n c_2 h
      refine gd_iconst X (v := 1) d_Md_isSort_12 (by decide) ?_
      refine gd_goto X (tgt := 17) d_Md_isSort_13 (by decide) ?_
      cases h
      exact gd_zret X hr hlk (by decide) d_Md_isSort_17
def m_Md_isSort (s_self : Nat → Nat → Int32) (v1 : Int32) : Option ((Int32)) := f_Md_isSort_0 s_self v1
set_option maxHeartbeats 4000000 in
set_option maxRecDepth 100000 in
theorem c_Md_isSort (l : Launch) (D : va_G) (K : Nat → ClassId) (a_self a_least : Nat → Nat) (s_self : Nat → Nat → Int32) (v1 : Int32) (r : Int32) (h : m_Md_isSort s_self v1 = some r) : SMet l y_Md_isSort w_Md_isSort rm_Md_isSort D classes (tyK K) [.ref (a_self 0), .int v1] (some (.int r)) [wd_Md K a_self (a_least 0) s_self] [wd_Md K a_self (a_least 0) s_self] := by
  refine sm_of R_Md (by decide) rfl rfl (Nat.le_of_ble_eq_true rfl) ?_
  intro p e s m below meth c A X hr hlk
  refine gd_loc (lv' := [(0, .ref (a_self 0)), (1, .int v1)]) [0, 1] rfl ?_
  exact t_Md_isSort_0 a_self a_least X hr hlk r s_self v1 h
