abbrev b_Md_takeWay : ByteArray := prog_10_method_25_code
def y_Md_takeWay : MethodName := ⟨R_Md, "takeWay", "(III)V"⟩
def w_Md_takeWay : List Cond := .code y_Md_takeWay b_Md_takeWay 8 none :: TB
theorem k_Md_takeWay : Cond.code y_Md_takeWay b_Md_takeWay 8 none ∈ TB := tb_of 925 (by decide +kernel) (by decide +kernel)
theorem d_Md_takeWay_0 : decode b_Md_takeWay 0 = .ok (.iconst 1, 1) := by decide +kernel
theorem d_Md_takeWay_1 : decode b_Md_takeWay 1 = .ok (.istore 4, 2) := by decide +kernel
theorem d_Md_takeWay_3 : decode b_Md_takeWay 3 = .ok (.iconst 0, 1) := by decide +kernel
theorem d_Md_takeWay_4 : decode b_Md_takeWay 4 = .ok (.istore 5, 2) := by decide +kernel
theorem d_Md_takeWay_6 : decode b_Md_takeWay 6 = .ok (.iload 5, 2) := by decide +kernel
theorem d_Md_takeWay_8 : decode b_Md_takeWay 8 = .ok (.aload_n 0, 1) := by decide +kernel
theorem d_Md_takeWay_9 : decode b_Md_takeWay 9 = .ok (.getfield 142, 3) := by decide +kernel
theorem d_Md_takeWay_12 : decode b_Md_takeWay 12 = .ok (.if_icmp .ge 27, 3) := by decide +kernel
theorem d_Md_takeWay_15 : decode b_Md_takeWay 15 = .ok (.iload 4, 2) := by decide +kernel
theorem d_Md_takeWay_17 : decode b_Md_takeWay 17 = .ok (.aload_n 0, 1) := by decide +kernel
theorem d_Md_takeWay_18 : decode b_Md_takeWay 18 = .ok (.getfield 32, 3) := by decide +kernel
theorem d_Md_takeWay_21 : decode b_Md_takeWay 21 = .ok (.aload_n 0, 1) := by decide +kernel
theorem d_Md_takeWay_22 : decode b_Md_takeWay 22 = .ok (.iload 5, 2) := by decide +kernel
theorem d_Md_takeWay_24 : decode b_Md_takeWay 24 = .ok (.invokevirtual 145, 3) := by decide +kernel
theorem d_Md_takeWay_27 : decode b_Md_takeWay 27 = .ok (.iaload, 1) := by decide +kernel
theorem d_Md_takeWay_28 : decode b_Md_takeWay 28 = .ok (.invokestatic 148, 3) := by decide +kernel
theorem d_Md_takeWay_31 : decode b_Md_takeWay 31 = .ok (.istore 4, 2) := by decide +kernel
theorem d_Md_takeWay_33 : decode b_Md_takeWay 33 = .ok (.iinc 5 1, 3) := by decide +kernel
theorem d_Md_takeWay_36 : decode b_Md_takeWay 36 = .ok (.goto (-30), 3) := by decide +kernel
theorem d_Md_takeWay_39 : decode b_Md_takeWay 39 = .ok (.aload_n 0, 1) := by decide +kernel
theorem d_Md_takeWay_40 : decode b_Md_takeWay 40 = .ok (.getfield 60, 3) := by decide +kernel
theorem d_Md_takeWay_43 : decode b_Md_takeWay 43 = .ok (.aload_n 0, 1) := by decide +kernel
theorem d_Md_takeWay_44 : decode b_Md_takeWay 44 = .ok (.getfield 13, 3) := by decide +kernel
theorem d_Md_takeWay_47 : decode b_Md_takeWay 47 = .ok (.iload_n 1, 1) := by decide +kernel
theorem d_Md_takeWay_48 : decode b_Md_takeWay 48 = .ok (.iaload, 1) := by decide +kernel
theorem d_Md_takeWay_49 : decode b_Md_takeWay 49 = .ok (.aload_n 0, 1) := by decide +kernel
theorem d_Md_takeWay_50 : decode b_Md_takeWay 50 = .ok (.getfield 60, 3) := by decide +kernel
theorem d_Md_takeWay_53 : decode b_Md_takeWay 53 = .ok (.aload_n 0, 1) := by decide +kernel
theorem d_Md_takeWay_54 : decode b_Md_takeWay 54 = .ok (.getfield 13, 3) := by decide +kernel
theorem d_Md_takeWay_57 : decode b_Md_takeWay 57 = .ok (.iload_n 1, 1) := by decide +kernel
theorem d_Md_takeWay_58 : decode b_Md_takeWay 58 = .ok (.iaload, 1) := by decide +kernel
theorem d_Md_takeWay_59 : decode b_Md_takeWay 59 = .ok (.iaload, 1) := by decide +kernel
theorem d_Md_takeWay_60 : decode b_Md_takeWay 60 = .ok (.iload 4, 2) := by decide +kernel
theorem d_Md_takeWay_62 : decode b_Md_takeWay 62 = .ok (.invokestatic 152, 3) := by decide +kernel
theorem d_Md_takeWay_65 : decode b_Md_takeWay 65 = .ok (.iastore, 1) := by decide +kernel
theorem d_Md_takeWay_66 : decode b_Md_takeWay 66 = .ok (.iload 4, 2) := by decide +kernel
theorem d_Md_takeWay_68 : decode b_Md_takeWay 68 = .ok (.ifCond .ne 4, 3) := by decide +kernel
theorem d_Md_takeWay_71 : decode b_Md_takeWay 71 = .ok (.return_, 1) := by decide +kernel
theorem d_Md_takeWay_72 : decode b_Md_takeWay 72 = .ok (.iconst (-1), 1) := by decide +kernel
theorem d_Md_takeWay_73 : decode b_Md_takeWay 73 = .ok (.istore 5, 2) := by decide +kernel
theorem d_Md_takeWay_75 : decode b_Md_takeWay 75 = .ok (.iload 5, 2) := by decide +kernel
theorem d_Md_takeWay_77 : decode b_Md_takeWay 77 = .ok (.aload_n 0, 1) := by decide +kernel
theorem d_Md_takeWay_78 : decode b_Md_takeWay 78 = .ok (.getfield 142, 3) := by decide +kernel
theorem d_Md_takeWay_81 : decode b_Md_takeWay 81 = .ok (.if_icmp .ge 118, 3) := by decide +kernel
theorem d_Md_takeWay_84 : decode b_Md_takeWay 84 = .ok (.iload 5, 2) := by decide +kernel
theorem d_Md_takeWay_86 : decode b_Md_takeWay 86 = .ok (.ifCond .lt 21, 3) := by decide +kernel
theorem d_Md_takeWay_89 : decode b_Md_takeWay 89 = .ok (.aload_n 0, 1) := by decide +kernel
theorem d_Md_takeWay_90 : decode b_Md_takeWay 90 = .ok (.getfield 35, 3) := by decide +kernel
theorem d_Md_takeWay_93 : decode b_Md_takeWay 93 = .ok (.iconst 2, 1) := by decide +kernel
theorem d_Md_takeWay_94 : decode b_Md_takeWay 94 = .ok (.aload_n 0, 1) := by decide +kernel
theorem d_Md_takeWay_95 : decode b_Md_takeWay 95 = .ok (.iload 5, 2) := by decide +kernel
theorem d_Md_takeWay_97 : decode b_Md_takeWay 97 = .ok (.invokevirtual 145, 3) := by decide +kernel
theorem d_Md_takeWay_100 : decode b_Md_takeWay 100 = .ok (.imul, 1) := by decide +kernel
theorem d_Md_takeWay_101 : decode b_Md_takeWay 101 = .ok (.iconst 1, 1) := by decide +kernel
theorem d_Md_takeWay_102 : decode b_Md_takeWay 102 = .ok (.iadd, 1) := by decide +kernel
theorem d_Md_takeWay_103 : decode b_Md_takeWay 103 = .ok (.iaload, 1) := by decide +kernel
theorem d_Md_takeWay_104 : decode b_Md_takeWay 104 = .ok (.ifCond .le 7, 3) := by decide +kernel
theorem d_Md_takeWay_107 : decode b_Md_takeWay 107 = .ok (.iconst 1, 1) := by decide +kernel
theorem d_Md_takeWay_108 : decode b_Md_takeWay 108 = .ok (.goto 4, 3) := by decide +kernel
theorem d_Md_takeWay_111 : decode b_Md_takeWay 111 = .ok (.iconst 0, 1) := by decide +kernel
theorem d_Md_takeWay_112 : decode b_Md_takeWay 112 = .ok (.istore 6, 2) := by decide +kernel
theorem d_Md_takeWay_114 : decode b_Md_takeWay 114 = .ok (.aload_n 0, 1) := by decide +kernel
theorem d_Md_takeWay_115 : decode b_Md_takeWay 115 = .ok (.iconst 0, 1) := by decide +kernel
theorem d_Md_takeWay_116 : decode b_Md_takeWay 116 = .ok (.putfield 119, 3) := by decide +kernel
theorem d_Md_takeWay_119 : decode b_Md_takeWay 119 = .ok (.aload_n 0, 1) := by decide +kernel
theorem d_Md_takeWay_120 : decode b_Md_takeWay 120 = .ok (.iload_n 1, 1) := by decide +kernel
theorem d_Md_takeWay_121 : decode b_Md_takeWay 121 = .ok (.invokevirtual 129, 3) := by decide +kernel
theorem d_Md_takeWay_124 : decode b_Md_takeWay 124 = .ok (.iconst 0, 1) := by decide +kernel
theorem d_Md_takeWay_125 : decode b_Md_takeWay 125 = .ok (.istore 7, 2) := by decide +kernel
theorem d_Md_takeWay_127 : decode b_Md_takeWay 127 = .ok (.iload 7, 2) := by decide +kernel
theorem d_Md_takeWay_129 : decode b_Md_takeWay 129 = .ok (.aload_n 0, 1) := by decide +kernel
theorem d_Md_takeWay_130 : decode b_Md_takeWay 130 = .ok (.getfield 142, 3) := by decide +kernel
theorem d_Md_takeWay_133 : decode b_Md_takeWay 133 = .ok (.if_icmp .ge 39, 3) := by decide +kernel
theorem d_Md_takeWay_136 : decode b_Md_takeWay 136 = .ok (.iload 6, 2) := by decide +kernel
theorem d_Md_takeWay_138 : decode b_Md_takeWay 138 = .ok (.ifCond .eq 34, 3) := by decide +kernel
theorem d_Md_takeWay_141 : decode b_Md_takeWay 141 = .ok (.aload_n 0, 1) := by decide +kernel
theorem d_Md_takeWay_142 : decode b_Md_takeWay 142 = .ok (.iconst 2, 1) := by decide +kernel
theorem d_Md_takeWay_143 : decode b_Md_takeWay 143 = .ok (.aload_n 0, 1) := by decide +kernel
theorem d_Md_takeWay_144 : decode b_Md_takeWay 144 = .ok (.iload 7, 2) := by decide +kernel
theorem d_Md_takeWay_146 : decode b_Md_takeWay 146 = .ok (.invokevirtual 145, 3) := by decide +kernel
theorem d_Md_takeWay_149 : decode b_Md_takeWay 149 = .ok (.imul, 1) := by decide +kernel
theorem d_Md_takeWay_150 : decode b_Md_takeWay 150 = .ok (.iload 7, 2) := by decide +kernel
theorem d_Md_takeWay_152 : decode b_Md_takeWay 152 = .ok (.iload 5, 2) := by decide +kernel
theorem d_Md_takeWay_154 : decode b_Md_takeWay 154 = .ok (.if_icmp .ne 7, 3) := by decide +kernel
theorem d_Md_takeWay_157 : decode b_Md_takeWay 157 = .ok (.iconst 1, 1) := by decide +kernel
theorem d_Md_takeWay_158 : decode b_Md_takeWay 158 = .ok (.goto 4, 3) := by decide +kernel
theorem d_Md_takeWay_161 : decode b_Md_takeWay 161 = .ok (.iconst 0, 1) := by decide +kernel
theorem d_Md_takeWay_162 : decode b_Md_takeWay 162 = .ok (.iadd, 1) := by decide +kernel
theorem d_Md_takeWay_163 : decode b_Md_takeWay 163 = .ok (.invokevirtual 155, 3) := by decide +kernel
theorem d_Md_takeWay_166 : decode b_Md_takeWay 166 = .ok (.iinc 7 1, 3) := by decide +kernel
theorem d_Md_takeWay_169 : decode b_Md_takeWay 169 = .ok (.goto (-42), 3) := by decide +kernel
theorem d_Md_takeWay_172 : decode b_Md_takeWay 172 = .ok (.iload 6, 2) := by decide +kernel
theorem d_Md_takeWay_174 : decode b_Md_takeWay 174 = .ok (.ifCond .eq 19, 3) := by decide +kernel
theorem d_Md_takeWay_177 : decode b_Md_takeWay 177 = .ok (.aload_n 0, 1) := by decide +kernel
theorem d_Md_takeWay_178 : decode b_Md_takeWay 178 = .ok (.aload_n 0, 1) := by decide +kernel
theorem d_Md_takeWay_179 : decode b_Md_takeWay 179 = .ok (.getfield 13, 3) := by decide +kernel
theorem d_Md_takeWay_182 : decode b_Md_takeWay 182 = .ok (.iload_n 1, 1) := by decide +kernel
theorem d_Md_takeWay_183 : decode b_Md_takeWay 183 = .ok (.iaload, 1) := by decide +kernel
theorem d_Md_takeWay_184 : decode b_Md_takeWay 184 = .ok (.iload_n 2, 1) := by decide +kernel
theorem d_Md_takeWay_185 : decode b_Md_takeWay 185 = .ok (.iload_n 3, 1) := by decide +kernel
theorem d_Md_takeWay_186 : decode b_Md_takeWay 186 = .ok (.invokestatic 138, 3) := by decide +kernel
theorem d_Md_takeWay_189 : decode b_Md_takeWay 189 = .ok (.invokevirtual 158, 3) := by decide +kernel
theorem d_Md_takeWay_192 : decode b_Md_takeWay 192 = .ok (.pop, 1) := by decide +kernel
theorem d_Md_takeWay_193 : decode b_Md_takeWay 193 = .ok (.iinc 5 1, 3) := by decide +kernel
theorem d_Md_takeWay_196 : decode b_Md_takeWay 196 = .ok (.goto (-121), 3) := by decide +kernel
theorem d_Md_takeWay_199 : decode b_Md_takeWay 199 = .ok (.return_, 1) := by decide +kernel
theorem fl_Md_142 : Cond.fieldLink R_Md 142 "RuleTreesModel" "different" "I" ∈ TB := tb_of 746 (by decide +kernel) (by decide +kernel)
theorem fl_Md_32 : Cond.fieldLink R_Md 32 "RuleTreesModel" "numbers" "[I" ∈ TB := tb_of 735 (by decide +kernel) (by decide +kernel)
theorem ml_Md_145 : Cond.methodLink R_Md 145 ⟨"RuleTreesModel", "part", "(I)I"⟩ ∈ TB := tb_of 926 (by decide +kernel) (by decide +kernel)
theorem u_Md_part : (Cond.instanceMethod y_Md_part ∈ TB ∧ Cond.selects R_Md y_Md_part y_Md_part ∈ TB) ∧ Cond.initialized R_Md ∈ TB ∧ Cond.code y_Md_part b_Md_part 3 (some .int) ∈ TB := ⟨⟨(tb_of 928 (by decide +kernel) (by decide +kernel)), (tb_of 50 (by decide +kernel) (by decide +kernel))⟩, (tb_of 70 (by decide +kernel) (by decide +kernel)), k_Md_part⟩
theorem ml_Md_148 : Cond.methodLink R_Md 148 ⟨"RuleTreesModel", "product", "(II)I"⟩ ∈ TB := tb_of 930 (by decide +kernel) (by decide +kernel)
theorem u_Md_product : Cond.static y_Md_product ∈ TB ∧ Cond.initialized y_Md_product.cls ∈ TB ∧ Cond.code y_Md_product b_Md_product 4 (some .int) ∈ TB := ⟨(tb_of 931 (by decide +kernel) (by decide +kernel)), (tb_of 70 (by decide +kernel) (by decide +kernel)), k_Md_product⟩
theorem ml_Md_155 : Cond.methodLink R_Md 155 ⟨"RuleTreesModel", "addTree", "(I)V"⟩ ∈ TB := tb_of 938 (by decide +kernel) (by decide +kernel)
theorem u_Md_addTree : (Cond.instanceMethod y_Md_addTree ∈ TB ∧ Cond.selects R_Md y_Md_addTree y_Md_addTree ∈ TB) ∧ Cond.initialized R_Md ∈ TB ∧ Cond.code y_Md_addTree b_Md_addTree 3 none ∈ TB := ⟨⟨(tb_of 940 (by decide +kernel) (by decide +kernel)), (tb_of 51 (by decide +kernel) (by decide +kernel))⟩, (tb_of 70 (by decide +kernel) (by decide +kernel)), k_Md_addTree⟩
theorem ml_Md_158 : Cond.methodLink R_Md 158 ⟨"RuleTreesModel", "offer", "(I)Z"⟩ ∈ TB := tb_of 898 (by decide +kernel) (by decide +kernel)
theorem u_Md_offer : (Cond.instanceMethod y_Md_offer ∈ TB ∧ Cond.selects R_Md y_Md_offer y_Md_offer ∈ TB) ∧ Cond.initialized R_Md ∈ TB ∧ Cond.code y_Md_offer b_Md_offer 5 (some .boolean) ∈ TB := ⟨⟨(tb_of 900 (by decide +kernel) (by decide +kernel)), (tb_of 43 (by decide +kernel) (by decide +kernel))⟩, (tb_of 70 (by decide +kernel) (by decide +kernel)), k_Md_offer⟩
theorem fl_Md_60 : Cond.fieldLink R_Md 60 "RuleTreesModel" "ways" "[I" ∈ TB := tb_of 747 (by decide +kernel) (by decide +kernel)
theorem ml_Md_152 : Cond.methodLink R_Md 152 ⟨"RuleTreesModel", "sum", "(II)I"⟩ ∈ TB := tb_of 935 (by decide +kernel) (by decide +kernel)
theorem u_Md_sum : Cond.static y_Md_sum ∈ TB ∧ Cond.initialized y_Md_sum.cls ∈ TB ∧ Cond.code y_Md_sum b_Md_sum 2 (some .int) ∈ TB := ⟨(tb_of 936 (by decide +kernel) (by decide +kernel)), (tb_of 70 (by decide +kernel) (by decide +kernel)), k_Md_sum⟩
abbrev rm_Md_takeWay : Room := { frames := 2, cells := 0, slots := 0, locals := 50 }
def f_Md_takeWay_6 (N : Nat) (kb : Int32 → Int32 → Option ((Nat → Nat → Int32))) (kx39 : Int32 → Option ((Nat → Nat → Int32))) (s_self : Nat → Nat → Int32) (v1 v2 v3 v4 v5 : Int32) : Option ((Nat → Nat → Int32)) :=
  if (s_self 0 26) ≤ v5 then
    kx39 v4
  else
    bd1 (m_Md_part s_self v5) fun r_2 =>
    ck r_2 936 <|
    bd1 (m_Md_product v4 (s_self 7 (Int32.toNatClampNeg r_2))) fun r_5 =>
    nm (v5 + 1) fun v5_7 =>
    kb r_5 v5_7
set_option maxHeartbeats 4000000 in
set_option maxRecDepth 100000 in
theorem t_Md_takeWay_6 {p : Program} {l : Launch} {e : Env} {s : State} {m : MethodId} {args : Array Value} {below : List Frame} {meth : Method} {c : Code} {A : Nat → Prop} {D : va_G} {K : Nat → ClassId} (a_self a_least : Nat → Nat) (X : gx p s m args c b_Md_takeWay 8 R_Md w_Md_takeWay D classes (tyK K) A) (hr : meth.sig.returnType = none) (hlk : meth.locks = false) (N : Nat) (f_self : Nat → Nat → Int32) (s_self : Nat → Nat → Int32) (v1 v2 v3 v4 v5 : Int32) (kb : Int32 → Int32 → Option ((Nat → Nat → Int32))) (hkb : ∀ (v4 v5 : Int32), kb v4 v5 = some f_self → Gd p l e rm_Md_takeWay s m args below meth c 0 0 (MQ below (sq D classes (tyK K) none [wd_Md K a_self (a_least 0) f_self] A) args s 0 0 A) D classes A 8 6 [wd_Md K a_self (a_least 0) s_self] [(0, .ref (a_self 0)), (1, .int v1), (2, .int v2), (3, .int v3), (4, .int v4), (5, .int v5)] []) (kx39 : Int32 → Option ((Nat → Nat → Int32))) (hkx39 : ∀ (v4 : Int32), kx39 v4 = some f_self → Gd p l e rm_Md_takeWay s m args below meth c 0 0 (MQ below (sq D classes (tyK K) none [wd_Md K a_self (a_least 0) f_self] A) args s 0 0 A) D classes A 8 39 [wd_Md K a_self (a_least 0) s_self] [(0, .ref (a_self 0)), (1, .int v1), (2, .int v2), (3, .int v3), (4, .int v4)] []) (h : f_Md_takeWay_6 N kb kx39 s_self v1 v2 v3 v4 v5 = some f_self) : Gd p l e rm_Md_takeWay s m args below meth c 0 0 (MQ below (sq D classes (tyK K) none [wd_Md K a_self (a_least 0) f_self] A) args s 0 0 A) D classes A 8 6 [wd_Md K a_self (a_least 0) s_self] [(0, .ref (a_self 0)), (1, .int v1), (2, .int v2), (3, .int v3), (4, .int v4), (5, .int v5)] [] := by
  unfold f_Md_takeWay_6 at h
  refine gd_iload X d_Md_takeWay_6 5 rfl ?_
  refine gd_aload_n X d_Md_takeWay_8 0 rfl ?_
  refine gd_get X (ci := 7) (C := R_Md) (T := F_Md) (N := 36) (v := .int (s_self 0 26)) 0 0 rfl rfl rfl (in_Md _) 26 (by decide) (List.mem_cons_of_mem _ fl_Md_142) rfl rfl d_Md_takeWay_9 ?_
  refine gd_icmp_ge X (tgt := 39) d_Md_takeWay_12 (by decide) (fun c_1 => ?_) (fun c_1 => ?_)
  · replace h := it_p c_1 h
    refine gd_loc (lv' := [(0, .ref (a_self 0)), (1, .int v1), (2, .int v2), (3, .int v3), (4, .int v4)]) [0, 1, 2, 3, 4] rfl ?_
    exact hkx39 v4 h
  · replace h := it_n c_1 h
    refine gd_iload X d_Md_takeWay_15 4 rfl ?_
    refine gd_aload_n X d_Md_takeWay_17 0 rfl ?_
    refine gd_get X (ci := 7) (C := R_Md) (T := F_Md) (N := 36) (v := .ref (a_self 7)) 0 0 rfl rfl rfl (in_Md _) 15 (by decide) (List.mem_cons_of_mem _ fl_Md_32) rfl rfl d_Md_takeWay_18 ?_
    refine gd_aload_n X d_Md_takeWay_21 0 rfl ?_
    refine gd_iload X d_Md_takeWay_22 5 rfl ?_
    obtain ⟨r_2, hc_3, h⟩ := bd1_e h
    refine gd_fI X (gd_V X (As := [.int v5]) (rest := [.ref (a_self 7), .int v4]) (c_Md_part l D K a_self a_least s_self v5 r_2 hc_3) 1 (gi_V ml_Md_145 u_Md_part) rfl ⟨rfl, rfl⟩ (by decide +kernel) ⟨by decide, by decide⟩ (ci := 7) rfl rfl rfl rfl rfl rfl (Nat.le_of_ble_eq_true rfl) ⟨Nat.zero_le _, Nat.zero_le _⟩ d_Md_takeWay_24) ?_
    obtain ⟨hi_4, h⟩ := ck_e h
    refine gd_iald X 0 7 0 rfl rfl rfl hi_4 d_Md_takeWay_27 ?_
    obtain ⟨r_5, hc_6, h⟩ := bd1_e h
    refine gd_pI X (gd_Sc X (As := [.int v4, .int (s_self 7 (Int32.toNatClampNeg r_2))]) (rest := []) (c_Md_product l D K v4 (s_self 7 (Int32.toNatClampNeg r_2)) r_5 hc_6) 2 (gi_S ml_Md_148 u_Md_product) rfl ⟨rfl, rfl⟩ (by decide +kernel) ⟨by decide, by decide⟩ rfl rfl (Nat.le_of_ble_eq_true rfl) ⟨Nat.zero_le _, Nat.zero_le _⟩ d_Md_takeWay_28) [] rfl rfl ?_
    refine gd_istore X (lv' := [(4, .int r_5), (0, .ref (a_self 0)), (1, .int v1), (2, .int v2), (3, .int v3), (5, .int v5)]) d_Md_takeWay_31 (by decide) rfl ?_
    obtain ⟨v5_7, ev5_7, h⟩ := nm_e' h
    refine gd_iinc X (v := v5_7) (lv' := [(5, .int v5_7), (4, .int r_5), (0, .ref (a_self 0)), (1, .int v1), (2, .int v2), (3, .int v3)]) d_Md_takeWay_33 (k := 5) rfl (by rw [ev5_7]; rfl) (by decide) rfl ?_
    refine gd_goto X (tgt := 6) d_Md_takeWay_36 (by decide) ?_
    refine gd_loc (lv' := [(0, .ref (a_self 0)), (1, .int v1), (2, .int v2), (3, .int v3), (4, .int r_5), (5, .int v5_7)]) [2, 3, 4, 5, 1, 0] rfl ?_
    exact hkb r_5 v5_7 h
def f_Md_takeWay_127 (N : Nat) (kb : (Nat → Nat → Int32) → Int32 → Option ((Nat → Nat → Int32))) (kx172 : (Nat → Nat → Int32) → Option ((Nat → Nat → Int32))) (s_self : Nat → Nat → Int32) (v1 v2 v3 v5 v6 v7 : Int32) : Option ((Nat → Nat → Int32)) :=
  if (s_self 0 26) ≤ v7 then
    kx172 s_self
  else
    if v6 = 0 then
      kx172 s_self
    else
      bd1 (m_Md_part s_self v7) fun r_3 =>
      if v7 = v5 then
        bd1 (m_Md_addTree N s_self ((2 * r_3) + 1)) fun s_self_9 =>
        nm (v7 + 1) fun v7_11 =>
        kb s_self_9 v7_11
      else
        bd1 (m_Md_addTree N s_self ((2 * r_3) + 0)) fun s_self_6 =>
        nm (v7 + 1) fun v7_8 =>
        kb s_self_6 v7_8
set_option maxHeartbeats 4000000 in
set_option maxRecDepth 100000 in
theorem t_Md_takeWay_127 {p : Program} {l : Launch} {e : Env} {s : State} {m : MethodId} {args : Array Value} {below : List Frame} {meth : Method} {c : Code} {A : Nat → Prop} {D : va_G} {K : Nat → ClassId} (a_self a_least : Nat → Nat) (X : gx p s m args c b_Md_takeWay 8 R_Md w_Md_takeWay D classes (tyK K) A) (hr : meth.sig.returnType = none) (hlk : meth.locks = false) (N : Nat) (f_self : Nat → Nat → Int32) (s_self : Nat → Nat → Int32) (v1 v2 v3 v5 v6 v7 : Int32) (kb : (Nat → Nat → Int32) → Int32 → Option ((Nat → Nat → Int32))) (hkb : ∀ (s_self : Nat → Nat → Int32) (v7 : Int32), kb s_self v7 = some f_self → Gd p l e rm_Md_takeWay s m args below meth c 0 0 (MQ below (sq D classes (tyK K) none [wd_Md K a_self (a_least 0) f_self] A) args s 0 0 A) D classes A 8 127 [wd_Md K a_self (a_least 0) s_self] [(0, .ref (a_self 0)), (1, .int v1), (2, .int v2), (3, .int v3), (5, .int v5), (6, .int v6), (7, .int v7)] []) (kx172 : (Nat → Nat → Int32) → Option ((Nat → Nat → Int32))) (hkx172 : ∀ (s_self : Nat → Nat → Int32), kx172 s_self = some f_self → Gd p l e rm_Md_takeWay s m args below meth c 0 0 (MQ below (sq D classes (tyK K) none [wd_Md K a_self (a_least 0) f_self] A) args s 0 0 A) D classes A 8 172 [wd_Md K a_self (a_least 0) s_self] [(0, .ref (a_self 0)), (1, .int v1), (2, .int v2), (3, .int v3), (5, .int v5), (6, .int v6)] []) (h : f_Md_takeWay_127 N kb kx172 s_self v1 v2 v3 v5 v6 v7 = some f_self) : Gd p l e rm_Md_takeWay s m args below meth c 0 0 (MQ below (sq D classes (tyK K) none [wd_Md K a_self (a_least 0) f_self] A) args s 0 0 A) D classes A 8 127 [wd_Md K a_self (a_least 0) s_self] [(0, .ref (a_self 0)), (1, .int v1), (2, .int v2), (3, .int v3), (5, .int v5), (6, .int v6), (7, .int v7)] [] := by
  unfold f_Md_takeWay_127 at h
  refine gd_iload X d_Md_takeWay_127 6 rfl ?_
  refine gd_aload_n X d_Md_takeWay_129 0 rfl ?_
  refine gd_get X (ci := 7) (C := R_Md) (T := F_Md) (N := 36) (v := .int (s_self 0 26)) 0 0 rfl rfl rfl (in_Md _) 26 (by decide) (List.mem_cons_of_mem _ fl_Md_142) rfl rfl d_Md_takeWay_130 ?_
  refine gd_icmp_ge X (tgt := 172) d_Md_takeWay_133 (by decide) (fun c_1 => ?_) (fun c_1 => ?_)
  · replace h := it_p c_1 h
    refine gd_loc (lv' := [(0, .ref (a_self 0)), (1, .int v1), (2, .int v2), (3, .int v3), (5, .int v5), (6, .int v6)]) [0, 1, 2, 3, 4, 5] rfl ?_
    exact hkx172 s_self h
  · replace h := it_n c_1 h
    refine gd_iload X d_Md_takeWay_136 5 rfl ?_
    refine gd_if_eq X (tgt := 172) d_Md_takeWay_138 (by decide) (fun c_2 => ?_) (fun c_2 => ?_)
    · replace h := it_p c_2 h
      refine gd_loc (lv' := [(0, .ref (a_self 0)), (1, .int v1), (2, .int v2), (3, .int v3), (5, .int v5), (6, .int v6)]) [0, 1, 2, 3, 4, 5] rfl ?_
      exact hkx172 s_self h
    · replace h := it_n c_2 h
      refine gd_aload_n X d_Md_takeWay_141 0 rfl ?_
      refine gd_iconst X (v := 2) d_Md_takeWay_142 (by decide) ?_
      refine gd_aload_n X d_Md_takeWay_143 0 rfl ?_
      refine gd_iload X d_Md_takeWay_144 6 rfl ?_
      obtain ⟨r_3, hc_4, h⟩ := bd1_e h
      refine gd_fI X (gd_V X (As := [.int v7]) (rest := [.int 2, .ref (a_self 0)]) (c_Md_part l D K a_self a_least s_self v7 r_3 hc_4) 1 (gi_V ml_Md_145 u_Md_part) rfl ⟨rfl, rfl⟩ (by decide +kernel) ⟨by decide, by decide⟩ (ci := 7) rfl rfl rfl rfl rfl rfl (Nat.le_of_ble_eq_true rfl) ⟨Nat.zero_le _, Nat.zero_le _⟩ d_Md_takeWay_146) ?_
      refine gd_imul X d_Md_takeWay_149 ?_
      refine gd_iload X d_Md_takeWay_150 6 rfl ?_
      refine gd_iload X d_Md_takeWay_152 4 rfl ?_
      refine gd_icmp_ne X (tgt := 161) d_Md_takeWay_154 (by decide) (fun c_5 => ?_) (fun c_5 => ?_)
      · replace h := it_n c_5 h
        refine gd_iconst X (v := 0) d_Md_takeWay_161 (by decide) ?_
        refine gd_iadd X d_Md_takeWay_162 ?_
        obtain ⟨s_self_6, hc_7, h⟩ := bd1_e h
        refine gd_fv X (w1 := [wd_Md K a_self (a_least 0) s_self_6]) (gd_V X (As := [.int ((2 * r_3) + 0)]) (rest := []) (c_Md_addTree l D K a_self a_least N s_self ((2 * r_3) + 0) s_self_6 hc_7) 1 (gi_V ml_Md_155 u_Md_addTree) rfl ⟨rfl, rfl⟩ (by decide +kernel) ⟨by decide, by decide⟩ (ci := 7) rfl rfl rfl rfl rfl rfl (Nat.le_of_ble_eq_true rfl) ⟨Nat.zero_le _, Nat.zero_le _⟩ d_Md_takeWay_163) ?_
        obtain ⟨v7_8, ev7_8, h⟩ := nm_e' h
        refine gd_iinc X (v := v7_8) (lv' := [(7, .int v7_8), (0, .ref (a_self 0)), (1, .int v1), (2, .int v2), (3, .int v3), (5, .int v5), (6, .int v6)]) d_Md_takeWay_166 (k := 6) rfl (by rw [ev7_8]; rfl) (by decide) rfl ?_
        refine gd_goto X (tgt := 127) d_Md_takeWay_169 (by decide) ?_
        refine gd_loc (lv' := [(0, .ref (a_self 0)), (1, .int v1), (2, .int v2), (3, .int v3), (5, .int v5), (6, .int v6), (7, .int v7_8)]) [1, 2, 3, 4, 5, 6, 0] rfl ?_
        exact hkb s_self_6 v7_8 h
      · replace h := it_p c_5 h
        refine gd_iconst X (v := 1) d_Md_takeWay_157 (by decide) ?_
        refine gd_goto X (tgt := 162) d_Md_takeWay_158 (by decide) ?_
        refine gd_iadd X d_Md_takeWay_162 ?_
        obtain ⟨s_self_9, hc_10, h⟩ := bd1_e h
        refine gd_fv X (w1 := [wd_Md K a_self (a_least 0) s_self_9]) (gd_V X (As := [.int ((2 * r_3) + 1)]) (rest := []) (c_Md_addTree l D K a_self a_least N s_self ((2 * r_3) + 1) s_self_9 hc_10) 1 (gi_V ml_Md_155 u_Md_addTree) rfl ⟨rfl, rfl⟩ (by decide +kernel) ⟨by decide, by decide⟩ (ci := 7) rfl rfl rfl rfl rfl rfl (Nat.le_of_ble_eq_true rfl) ⟨Nat.zero_le _, Nat.zero_le _⟩ d_Md_takeWay_163) ?_
        obtain ⟨v7_11, ev7_11, h⟩ := nm_e' h
        refine gd_iinc X (v := v7_11) (lv' := [(7, .int v7_11), (0, .ref (a_self 0)), (1, .int v1), (2, .int v2), (3, .int v3), (5, .int v5), (6, .int v6)]) d_Md_takeWay_166 (k := 6) rfl (by rw [ev7_11]; rfl) (by decide) rfl ?_
        refine gd_goto X (tgt := 127) d_Md_takeWay_169 (by decide) ?_
        refine gd_loc (lv' := [(0, .ref (a_self 0)), (1, .int v1), (2, .int v2), (3, .int v3), (5, .int v5), (6, .int v6), (7, .int v7_11)]) [1, 2, 3, 4, 5, 6, 0] rfl ?_
        exact hkb s_self_9 v7_11 h
def f_Md_takeWay_172 (N : Nat) (kb : (Nat → Nat → Int32) → Int32 → Option ((Nat → Nat → Int32))) (kx199 : (Nat → Nat → Int32) → Option ((Nat → Nat → Int32))) (s_self : Nat → Nat → Int32) (v1 v2 v3 v5 v6 : Int32) : Option ((Nat → Nat → Int32)) :=
  if v6 = 0 then
    nm (v5 + 1) fun v5_2 =>
    kb s_self v5_2
  else
    ck v1 31 <|
    bd1 (m_Md_cellOf (s_self 2 (Int32.toNatClampNeg v1)) v2 v3) fun r_4 =>
    bd2 (m_Md_offer N s_self r_4) fun r_6 s_self_7 =>
    nm (v5 + 1) fun v5_9 =>
    kb s_self_7 v5_9
set_option maxHeartbeats 4000000 in
set_option maxRecDepth 100000 in
theorem t_Md_takeWay_172 {p : Program} {l : Launch} {e : Env} {s : State} {m : MethodId} {args : Array Value} {below : List Frame} {meth : Method} {c : Code} {A : Nat → Prop} {D : va_G} {K : Nat → ClassId} (a_self a_least : Nat → Nat) (X : gx p s m args c b_Md_takeWay 8 R_Md w_Md_takeWay D classes (tyK K) A) (hr : meth.sig.returnType = none) (hlk : meth.locks = false) (N : Nat) (f_self : Nat → Nat → Int32) (s_self : Nat → Nat → Int32) (v1 v2 v3 v5 v6 : Int32) (kb : (Nat → Nat → Int32) → Int32 → Option ((Nat → Nat → Int32))) (hkb : ∀ (s_self : Nat → Nat → Int32) (v5 : Int32), kb s_self v5 = some f_self → Gd p l e rm_Md_takeWay s m args below meth c 0 0 (MQ below (sq D classes (tyK K) none [wd_Md K a_self (a_least 0) f_self] A) args s 0 0 A) D classes A 8 75 [wd_Md K a_self (a_least 0) s_self] [(0, .ref (a_self 0)), (1, .int v1), (2, .int v2), (3, .int v3), (5, .int v5)] []) (kx199 : (Nat → Nat → Int32) → Option ((Nat → Nat → Int32))) (hkx199 : ∀ (s_self : Nat → Nat → Int32), kx199 s_self = some f_self → Gd p l e rm_Md_takeWay s m args below meth c 0 0 (MQ below (sq D classes (tyK K) none [wd_Md K a_self (a_least 0) f_self] A) args s 0 0 A) D classes A 8 199 [wd_Md K a_self (a_least 0) s_self] [] []) (h : f_Md_takeWay_172 N kb kx199 s_self v1 v2 v3 v5 v6 = some f_self) : Gd p l e rm_Md_takeWay s m args below meth c 0 0 (MQ below (sq D classes (tyK K) none [wd_Md K a_self (a_least 0) f_self] A) args s 0 0 A) D classes A 8 172 [wd_Md K a_self (a_least 0) s_self] [(0, .ref (a_self 0)), (1, .int v1), (2, .int v2), (3, .int v3), (5, .int v5), (6, .int v6)] [] := by
  unfold f_Md_takeWay_172 at h
  refine gd_iload X d_Md_takeWay_172 5 rfl ?_
  refine gd_if_eq X (tgt := 193) d_Md_takeWay_174 (by decide) (fun c_1 => ?_) (fun c_1 => ?_)
  · replace h := it_p c_1 h
    obtain ⟨v5_2, ev5_2, h⟩ := nm_e' h
    refine gd_iinc X (v := v5_2) (lv' := [(5, .int v5_2), (0, .ref (a_self 0)), (1, .int v1), (2, .int v2), (3, .int v3), (6, .int v6)]) d_Md_takeWay_193 (k := 4) rfl (by rw [ev5_2]; rfl) (by decide) rfl ?_
    refine gd_goto X (tgt := 75) d_Md_takeWay_196 (by decide) ?_
    refine gd_loc (lv' := [(0, .ref (a_self 0)), (1, .int v1), (2, .int v2), (3, .int v3), (5, .int v5_2)]) [1, 2, 3, 4, 0] rfl ?_
    exact hkb s_self v5_2 h
  · replace h := it_n c_1 h
    refine gd_aload_n X d_Md_takeWay_177 0 rfl ?_
    refine gd_aload_n X d_Md_takeWay_178 0 rfl ?_
    refine gd_get X (ci := 7) (C := R_Md) (T := F_Md) (N := 36) (v := .ref (a_self 2)) 0 0 rfl rfl rfl (in_Md _) 6 (by decide) (List.mem_cons_of_mem _ fl_Md_13) rfl rfl d_Md_takeWay_179 ?_
    refine gd_iload_n X d_Md_takeWay_182 1 rfl ?_
    obtain ⟨hi_3, h⟩ := ck_e h
    refine gd_iald X 0 2 0 rfl rfl rfl hi_3 d_Md_takeWay_183 ?_
    refine gd_iload_n X d_Md_takeWay_184 2 rfl ?_
    refine gd_iload_n X d_Md_takeWay_185 3 rfl ?_
    obtain ⟨r_4, hc_5, h⟩ := bd1_e h
    refine gd_pI X (gd_Sc X (As := [.int (s_self 2 (Int32.toNatClampNeg v1)), .int v2, .int v3]) (rest := [.ref (a_self 0)]) (c_Md_cellOf l D K (s_self 2 (Int32.toNatClampNeg v1)) v2 v3 r_4 hc_5) 3 (gi_S ml_Md_138 u_Md_cellOf) rfl ⟨rfl, rfl⟩ (by decide +kernel) ⟨by decide, by decide⟩ rfl rfl (Nat.le_of_ble_eq_true rfl) ⟨Nat.zero_le _, Nat.zero_le _⟩ d_Md_takeWay_186) [] rfl rfl ?_
    obtain ⟨r_6, s_self_7, hc_8, h⟩ := bd2_e h
    refine gd_fI X (w1 := [wd_Md K a_self (a_least 0) s_self_7]) (gd_V X (As := [.int r_4]) (rest := []) (c_Md_offer l D K a_self a_least N s_self r_4 r_6 s_self_7 hc_8) 1 (gi_V ml_Md_158 u_Md_offer) rfl ⟨rfl, rfl⟩ (by decide +kernel) ⟨by decide, by decide⟩ (ci := 7) rfl rfl rfl rfl rfl rfl (Nat.le_of_ble_eq_true rfl) ⟨Nat.zero_le _, Nat.zero_le _⟩ d_Md_takeWay_189) ?_
    refine gd_pop X d_Md_takeWay_192 rfl ?_
    obtain ⟨v5_9, ev5_9, h⟩ := nm_e' h
    refine gd_iinc X (v := v5_9) (lv' := [(5, .int v5_9), (0, .ref (a_self 0)), (1, .int v1), (2, .int v2), (3, .int v3), (6, .int v6)]) d_Md_takeWay_193 (k := 4) rfl (by rw [ev5_9]; rfl) (by decide) rfl ?_
    refine gd_goto X (tgt := 75) d_Md_takeWay_196 (by decide) ?_
    refine gd_loc (lv' := [(0, .ref (a_self 0)), (1, .int v1), (2, .int v2), (3, .int v3), (5, .int v5_9)]) [1, 2, 3, 4, 0] rfl ?_
    exact hkb s_self_7 v5_9 h
def l_Md_takeWay_127 (N : Nat) (v1 v2 v3 v5 v6 : Int32) (kx172 : (Nat → Nat → Int32) → Option ((Nat → Nat → Int32))) : Nat → (Nat → Nat → Int32) → Int32 → Option ((Nat → Nat → Int32))
  | 0, _, _ => none
  | n + 1, s_self, v7 => f_Md_takeWay_127 N (l_Md_takeWay_127 N v1 v2 v3 v5 v6 kx172 n) kx172 s_self v1 v2 v3 v5 v6 v7
set_option maxHeartbeats 4000000 in
set_option maxRecDepth 100000 in
theorem tl_Md_takeWay_127 {p : Program} {l : Launch} {e : Env} {s : State} {m : MethodId} {args : Array Value} {below : List Frame} {meth : Method} {c : Code} {A : Nat → Prop} {D : va_G} {K : Nat → ClassId} (a_self a_least : Nat → Nat) (X : gx p s m args c b_Md_takeWay 8 R_Md w_Md_takeWay D classes (tyK K) A) (hr : meth.sig.returnType = none) (hlk : meth.locks = false) (N : Nat) (f_self : Nat → Nat → Int32) (v1 v2 v3 v5 v6 : Int32) (kx172 : (Nat → Nat → Int32) → Option ((Nat → Nat → Int32))) (hkx172 : ∀ (s_self : Nat → Nat → Int32), kx172 s_self = some f_self → Gd p l e rm_Md_takeWay s m args below meth c 0 0 (MQ below (sq D classes (tyK K) none [wd_Md K a_self (a_least 0) f_self] A) args s 0 0 A) D classes A 8 172 [wd_Md K a_self (a_least 0) s_self] [(0, .ref (a_self 0)), (1, .int v1), (2, .int v2), (3, .int v3), (5, .int v5), (6, .int v6)] []) : ∀ (n : Nat) (s_self : Nat → Nat → Int32) (v7 : Int32), l_Md_takeWay_127 N v1 v2 v3 v5 v6 kx172 n s_self v7 = some f_self → Gd p l e rm_Md_takeWay s m args below meth c 0 0 (MQ below (sq D classes (tyK K) none [wd_Md K a_self (a_least 0) f_self] A) args s 0 0 A) D classes A 8 127 [wd_Md K a_self (a_least 0) s_self] [(0, .ref (a_self 0)), (1, .int v1), (2, .int v2), (3, .int v3), (5, .int v5), (6, .int v6), (7, .int v7)] [] := by
  intro n
  induction n with
  | zero => intro s_self v7 h; have h : (none : Option ((Nat → Nat → Int32))) = some _ := h; cases h
  | succ n ih =>
    intro s_self v7 h
    exact t_Md_takeWay_127 a_self a_least X hr hlk N f_self s_self v1 v2 v3 v5 v6 v7 (l_Md_takeWay_127 N v1 v2 v3 v5 v6 kx172 n) ih kx172 hkx172 h
def f_Md_takeWay_107 (N : Nat) (kb : (Nat → Nat → Int32) → Int32 → Option ((Nat → Nat → Int32))) (kx199 : (Nat → Nat → Int32) → Option ((Nat → Nat → Int32))) (s_self : Nat → Nat → Int32) (v1 v2 v3 v5 : Int32) : Option ((Nat → Nat → Int32)) :=
  nm (st2 s_self 0 19 0) fun s_self_1 =>
  bd1 (m_Md_add s_self_1 v1) fun s_self_2 =>
  l_Md_takeWay_127 N v1 v2 v3 v5 1 (fun s_self => f_Md_takeWay_172 N kb kx199 s_self v1 v2 v3 v5 1) N s_self_2 0
set_option maxHeartbeats 4000000 in
set_option maxRecDepth 100000 in
theorem t_Md_takeWay_107 {p : Program} {l : Launch} {e : Env} {s : State} {m : MethodId} {args : Array Value} {below : List Frame} {meth : Method} {c : Code} {A : Nat → Prop} {D : va_G} {K : Nat → ClassId} (a_self a_least : Nat → Nat) (X : gx p s m args c b_Md_takeWay 8 R_Md w_Md_takeWay D classes (tyK K) A) (hr : meth.sig.returnType = none) (hlk : meth.locks = false) (N : Nat) (f_self : Nat → Nat → Int32) (s_self : Nat → Nat → Int32) (v1 v2 v3 v5 : Int32) (kb : (Nat → Nat → Int32) → Int32 → Option ((Nat → Nat → Int32))) (hkb : ∀ (s_self : Nat → Nat → Int32) (v5 : Int32), kb s_self v5 = some f_self → Gd p l e rm_Md_takeWay s m args below meth c 0 0 (MQ below (sq D classes (tyK K) none [wd_Md K a_self (a_least 0) f_self] A) args s 0 0 A) D classes A 8 75 [wd_Md K a_self (a_least 0) s_self] [(0, .ref (a_self 0)), (1, .int v1), (2, .int v2), (3, .int v3), (5, .int v5)] []) (kx199 : (Nat → Nat → Int32) → Option ((Nat → Nat → Int32))) (hkx199 : ∀ (s_self : Nat → Nat → Int32), kx199 s_self = some f_self → Gd p l e rm_Md_takeWay s m args below meth c 0 0 (MQ below (sq D classes (tyK K) none [wd_Md K a_self (a_least 0) f_self] A) args s 0 0 A) D classes A 8 199 [wd_Md K a_self (a_least 0) s_self] [] []) (h : f_Md_takeWay_107 N kb kx199 s_self v1 v2 v3 v5 = some f_self) : Gd p l e rm_Md_takeWay s m args below meth c 0 0 (MQ below (sq D classes (tyK K) none [wd_Md K a_self (a_least 0) f_self] A) args s 0 0 A) D classes A 8 107 [wd_Md K a_self (a_least 0) s_self] [(0, .ref (a_self 0)), (1, .int v1), (2, .int v2), (3, .int v3), (5, .int v5)] [] := by
  unfold f_Md_takeWay_107 at h
  refine gd_iconst X (v := 1) d_Md_takeWay_107 (by decide) ?_
  refine gd_goto X (tgt := 112) d_Md_takeWay_108 (by decide) ?_
  refine gd_istore X (lv' := [(6, .int 1), (0, .ref (a_self 0)), (1, .int v1), (2, .int v2), (3, .int v3), (5, .int v5)]) d_Md_takeWay_112 (by decide) rfl ?_
  refine gd_aload_n X d_Md_takeWay_114 1 rfl ?_
  refine gd_iconst X (v := 0) d_Md_takeWay_115 (by decide) ?_
  obtain ⟨s_self_1, es_self_1, h⟩ := nm_e' h
  refine gd_put X (ci := 7) (C := R_Md) (T := F_Md) (N := 36) (ty := .int) (w' := [wd_Md K a_self (a_least 0) s_self_1]) 0 0 rfl rfl rfl (in_Md _) t_Md t_Md_ok n_Md 19 (by decide) (List.mem_cons_of_mem _ fl_Md_119) rfl rfl (by decide +kernel) rfl rfl (Nat.le_of_ble_eq_true rfl) d_Md_takeWay_116 (by rw [es_self_1]; rfl) ?_
  refine gd_aload_n X d_Md_takeWay_119 1 rfl ?_
  refine gd_iload_n X d_Md_takeWay_120 2 rfl ?_
  obtain ⟨s_self_2, hc_3, h⟩ := bd1_e h
  refine gd_fv X (w1 := [wd_Md K a_self (a_least 0) s_self_2]) (gd_V X (As := [.int v1]) (rest := []) (c_Md_add l D K a_self a_least s_self_1 v1 s_self_2 hc_3) 1 (gi_V ml_Md_129 u_Md_add) rfl ⟨rfl, rfl⟩ (by decide +kernel) ⟨by decide, by decide⟩ (ci := 7) rfl rfl rfl rfl rfl rfl (Nat.le_of_ble_eq_true rfl) ⟨Nat.zero_le _, Nat.zero_le _⟩ d_Md_takeWay_121) ?_
  refine gd_iconst X (v := 0) d_Md_takeWay_124 (by decide) ?_
  refine gd_istore X (lv' := [(7, .int 0), (6, .int 1), (0, .ref (a_self 0)), (1, .int v1), (2, .int v2), (3, .int v3), (5, .int v5)]) d_Md_takeWay_125 (by decide) rfl ?_
  refine gd_loc (lv' := [(0, .ref (a_self 0)), (1, .int v1), (2, .int v2), (3, .int v3), (5, .int v5), (6, .int 1), (7, .int 0)]) [2, 3, 4, 5, 6, 1, 0] rfl ?_
  exact tl_Md_takeWay_127 a_self a_least X hr hlk N f_self v1 v2 v3 v5 1 (fun s_self => f_Md_takeWay_172 N kb kx199 s_self v1 v2 v3 v5 1) (fun s_self h => t_Md_takeWay_172 a_self a_least X hr hlk N f_self s_self v1 v2 v3 v5 1 kb hkb kx199 hkx199 h) N s_self_2 0 h
def f_Md_takeWay_75 (N : Nat) (kb : (Nat → Nat → Int32) → Int32 → Option ((Nat → Nat → Int32))) (kx199 : (Nat → Nat → Int32) → Option ((Nat → Nat → Int32))) (s_self : Nat → Nat → Int32) (v1 v2 v3 v5 : Int32) : Option ((Nat → Nat → Int32)) :=
  if (s_self 0 26) ≤ v5 then
    kx199 s_self
  else
    if v5 < 0 then
      f_Md_takeWay_107 N kb kx199 s_self v1 v2 v3 v5
    else
      bd1 (m_Md_part s_self v5) fun r_3 =>
      ck ((2 * r_3) + 1) 1872 <|
      if (s_self 8 (Int32.toNatClampNeg ((2 * r_3) + 1))) ≤ 0 then
        nm (st2 s_self 0 19 0) fun s_self_7 =>
        bd1 (m_Md_add s_self_7 v1) fun s_self_8 =>
        l_Md_takeWay_127 N v1 v2 v3 v5 0 (fun s_self => f_Md_takeWay_172 N kb kx199 s_self v1 v2 v3 v5 0) N s_self_8 0
      else
        f_Md_takeWay_107 N kb kx199 s_self v1 v2 v3 v5
set_option maxHeartbeats 4000000 in
set_option maxRecDepth 100000 in
theorem t_Md_takeWay_75 {p : Program} {l : Launch} {e : Env} {s : State} {m : MethodId} {args : Array Value} {below : List Frame} {meth : Method} {c : Code} {A : Nat → Prop} {D : va_G} {K : Nat → ClassId} (a_self a_least : Nat → Nat) (X : gx p s m args c b_Md_takeWay 8 R_Md w_Md_takeWay D classes (tyK K) A) (hr : meth.sig.returnType = none) (hlk : meth.locks = false) (N : Nat) (f_self : Nat → Nat → Int32) (s_self : Nat → Nat → Int32) (v1 v2 v3 v5 : Int32) (kb : (Nat → Nat → Int32) → Int32 → Option ((Nat → Nat → Int32))) (hkb : ∀ (s_self : Nat → Nat → Int32) (v5 : Int32), kb s_self v5 = some f_self → Gd p l e rm_Md_takeWay s m args below meth c 0 0 (MQ below (sq D classes (tyK K) none [wd_Md K a_self (a_least 0) f_self] A) args s 0 0 A) D classes A 8 75 [wd_Md K a_self (a_least 0) s_self] [(0, .ref (a_self 0)), (1, .int v1), (2, .int v2), (3, .int v3), (5, .int v5)] []) (kx199 : (Nat → Nat → Int32) → Option ((Nat → Nat → Int32))) (hkx199 : ∀ (s_self : Nat → Nat → Int32), kx199 s_self = some f_self → Gd p l e rm_Md_takeWay s m args below meth c 0 0 (MQ below (sq D classes (tyK K) none [wd_Md K a_self (a_least 0) f_self] A) args s 0 0 A) D classes A 8 199 [wd_Md K a_self (a_least 0) s_self] [] []) (h : f_Md_takeWay_75 N kb kx199 s_self v1 v2 v3 v5 = some f_self) : Gd p l e rm_Md_takeWay s m args below meth c 0 0 (MQ below (sq D classes (tyK K) none [wd_Md K a_self (a_least 0) f_self] A) args s 0 0 A) D classes A 8 75 [wd_Md K a_self (a_least 0) s_self] [(0, .ref (a_self 0)), (1, .int v1), (2, .int v2), (3, .int v3), (5, .int v5)] [] := by
  unfold f_Md_takeWay_75 at h
  refine gd_iload X d_Md_takeWay_75 4 rfl ?_
  refine gd_aload_n X d_Md_takeWay_77 0 rfl ?_
  refine gd_get X (ci := 7) (C := R_Md) (T := F_Md) (N := 36) (v := .int (s_self 0 26)) 0 0 rfl rfl rfl (in_Md _) 26 (by decide) (List.mem_cons_of_mem _ fl_Md_142) rfl rfl d_Md_takeWay_78 ?_
  refine gd_icmp_ge X (tgt := 199) d_Md_takeWay_81 (by decide) (fun c_1 => ?_) (fun c_1 => ?_)
  · replace h := it_p c_1 h
    refine gd_loc (lv' := []) [] rfl ?_
    exact hkx199 s_self h
  · replace h := it_n c_1 h
    refine gd_iload X d_Md_takeWay_84 4 rfl ?_
    refine gd_if_lt X (tgt := 107) d_Md_takeWay_86 (by decide) (fun c_2 => ?_) (fun c_2 => ?_)
    · replace h := it_p c_2 h
      exact t_Md_takeWay_107 a_self a_least X hr hlk N f_self s_self v1 v2 v3 v5 kb hkb kx199 hkx199 h
    · replace h := it_n c_2 h
      refine gd_aload_n X d_Md_takeWay_89 0 rfl ?_
      refine gd_get X (ci := 7) (C := R_Md) (T := F_Md) (N := 36) (v := .ref (a_self 8)) 0 0 rfl rfl rfl (in_Md _) 16 (by decide) (List.mem_cons_of_mem _ fl_Md_35) rfl rfl d_Md_takeWay_90 ?_
      refine gd_iconst X (v := 2) d_Md_takeWay_93 (by decide) ?_
      refine gd_aload_n X d_Md_takeWay_94 0 rfl ?_
      refine gd_iload X d_Md_takeWay_95 4 rfl ?_
      obtain ⟨r_3, hc_4, h⟩ := bd1_e h
      refine gd_fI X (gd_V X (As := [.int v5]) (rest := [.int 2, .ref (a_self 8)]) (c_Md_part l D K a_self a_least s_self v5 r_3 hc_4) 1 (gi_V ml_Md_145 u_Md_part) rfl ⟨rfl, rfl⟩ (by decide +kernel) ⟨by decide, by decide⟩ (ci := 7) rfl rfl rfl rfl rfl rfl (Nat.le_of_ble_eq_true rfl) ⟨Nat.zero_le _, Nat.zero_le _⟩ d_Md_takeWay_97) ?_
      refine gd_imul X d_Md_takeWay_100 ?_
      refine gd_iconst X (v := 1) d_Md_takeWay_101 (by decide) ?_
      refine gd_iadd X d_Md_takeWay_102 ?_
      obtain ⟨hi_5, h⟩ := ck_e h
      refine gd_iald X 0 8 0 rfl rfl rfl hi_5 d_Md_takeWay_103 ?_
      refine gd_if_le X (tgt := 111) d_Md_takeWay_104 (by decide) (fun c_6 => ?_) (fun c_6 => ?_)
      · replace h := it_p c_6 h
        refine gd_iconst X (v := 0) d_Md_takeWay_111 (by decide) ?_
        refine gd_istore X (lv' := [(6, .int 0), (0, .ref (a_self 0)), (1, .int v1), (2, .int v2), (3, .int v3), (5, .int v5)]) d_Md_takeWay_112 (by decide) rfl ?_
        refine gd_aload_n X d_Md_takeWay_114 1 rfl ?_
        refine gd_iconst X (v := 0) d_Md_takeWay_115 (by decide) ?_
        obtain ⟨s_self_7, es_self_7, h⟩ := nm_e' h
        refine gd_put X (ci := 7) (C := R_Md) (T := F_Md) (N := 36) (ty := .int) (w' := [wd_Md K a_self (a_least 0) s_self_7]) 0 0 rfl rfl rfl (in_Md _) t_Md t_Md_ok n_Md 19 (by decide) (List.mem_cons_of_mem _ fl_Md_119) rfl rfl (by decide +kernel) rfl rfl (Nat.le_of_ble_eq_true rfl) d_Md_takeWay_116 (by rw [es_self_7]; rfl) ?_
        refine gd_aload_n X d_Md_takeWay_119 1 rfl ?_
        refine gd_iload_n X d_Md_takeWay_120 2 rfl ?_
        obtain ⟨s_self_8, hc_9, h⟩ := bd1_e h
        refine gd_fv X (w1 := [wd_Md K a_self (a_least 0) s_self_8]) (gd_V X (As := [.int v1]) (rest := []) (c_Md_add l D K a_self a_least s_self_7 v1 s_self_8 hc_9) 1 (gi_V ml_Md_129 u_Md_add) rfl ⟨rfl, rfl⟩ (by decide +kernel) ⟨by decide, by decide⟩ (ci := 7) rfl rfl rfl rfl rfl rfl (Nat.le_of_ble_eq_true rfl) ⟨Nat.zero_le _, Nat.zero_le _⟩ d_Md_takeWay_121) ?_
        refine gd_iconst X (v := 0) d_Md_takeWay_124 (by decide) ?_
        refine gd_istore X (lv' := [(7, .int 0), (6, .int 0), (0, .ref (a_self 0)), (1, .int v1), (2, .int v2), (3, .int v3), (5, .int v5)]) d_Md_takeWay_125 (by decide) rfl ?_
        refine gd_loc (lv' := [(0, .ref (a_self 0)), (1, .int v1), (2, .int v2), (3, .int v3), (5, .int v5), (6, .int 0), (7, .int 0)]) [2, 3, 4, 5, 6, 1, 0] rfl ?_
        exact tl_Md_takeWay_127 a_self a_least X hr hlk N f_self v1 v2 v3 v5 0 (fun s_self => f_Md_takeWay_172 N kb kx199 s_self v1 v2 v3 v5 0) (fun s_self h => t_Md_takeWay_172 a_self a_least X hr hlk N f_self s_self v1 v2 v3 v5 0 kb hkb kx199 hkx199 h) N s_self_8 0 h
      · replace h := it_n c_6 h
        exact t_Md_takeWay_107 a_self a_least X hr hlk N f_self s_self v1 v2 v3 v5 kb hkb kx199 hkx199 h
def f_Md_takeWay_199 (N : Nat) (s_self : Nat → Nat → Int32) : Option ((Nat → Nat → Int32)) :=
  some s_self
set_option maxHeartbeats 4000000 in
set_option maxRecDepth 100000 in
theorem t_Md_takeWay_199 {p : Program} {l : Launch} {e : Env} {s : State} {m : MethodId} {args : Array Value} {below : List Frame} {meth : Method} {c : Code} {A : Nat → Prop} {D : va_G} {K : Nat → ClassId} (a_self a_least : Nat → Nat) (X : gx p s m args c b_Md_takeWay 8 R_Md w_Md_takeWay D classes (tyK K) A) (hr : meth.sig.returnType = none) (hlk : meth.locks = false) (N : Nat) (f_self : Nat → Nat → Int32) (s_self : Nat → Nat → Int32) (h : f_Md_takeWay_199 N s_self = some f_self) : Gd p l e rm_Md_takeWay s m args below meth c 0 0 (MQ below (sq D classes (tyK K) none [wd_Md K a_self (a_least 0) f_self] A) args s 0 0 A) D classes A 8 199 [wd_Md K a_self (a_least 0) s_self] [] [] := by
  unfold f_Md_takeWay_199 at h
  cases h
  exact gd_vret X hr hlk d_Md_takeWay_199
def l_Md_takeWay_75 (N : Nat) (v1 v2 v3 : Int32) (kx199 : (Nat → Nat → Int32) → Option ((Nat → Nat → Int32))) : Nat → (Nat → Nat → Int32) → Int32 → Option ((Nat → Nat → Int32))
  | 0, _, _ => none
  | n + 1, s_self, v5 => f_Md_takeWay_75 N (l_Md_takeWay_75 N v1 v2 v3 kx199 n) kx199 s_self v1 v2 v3 v5
set_option maxHeartbeats 4000000 in
set_option maxRecDepth 100000 in
theorem tl_Md_takeWay_75 {p : Program} {l : Launch} {e : Env} {s : State} {m : MethodId} {args : Array Value} {below : List Frame} {meth : Method} {c : Code} {A : Nat → Prop} {D : va_G} {K : Nat → ClassId} (a_self a_least : Nat → Nat) (X : gx p s m args c b_Md_takeWay 8 R_Md w_Md_takeWay D classes (tyK K) A) (hr : meth.sig.returnType = none) (hlk : meth.locks = false) (N : Nat) (f_self : Nat → Nat → Int32) (v1 v2 v3 : Int32) (kx199 : (Nat → Nat → Int32) → Option ((Nat → Nat → Int32))) (hkx199 : ∀ (s_self : Nat → Nat → Int32), kx199 s_self = some f_self → Gd p l e rm_Md_takeWay s m args below meth c 0 0 (MQ below (sq D classes (tyK K) none [wd_Md K a_self (a_least 0) f_self] A) args s 0 0 A) D classes A 8 199 [wd_Md K a_self (a_least 0) s_self] [] []) : ∀ (n : Nat) (s_self : Nat → Nat → Int32) (v5 : Int32), l_Md_takeWay_75 N v1 v2 v3 kx199 n s_self v5 = some f_self → Gd p l e rm_Md_takeWay s m args below meth c 0 0 (MQ below (sq D classes (tyK K) none [wd_Md K a_self (a_least 0) f_self] A) args s 0 0 A) D classes A 8 75 [wd_Md K a_self (a_least 0) s_self] [(0, .ref (a_self 0)), (1, .int v1), (2, .int v2), (3, .int v3), (5, .int v5)] [] := by
  intro n
  induction n with
  | zero => intro s_self v5 h; have h : (none : Option ((Nat → Nat → Int32))) = some _ := h; cases h
  | succ n ih =>
    intro s_self v5 h
    exact t_Md_takeWay_75 a_self a_least X hr hlk N f_self s_self v1 v2 v3 v5 (l_Md_takeWay_75 N v1 v2 v3 kx199 n) ih kx199 hkx199 h
def f_Md_takeWay_39 (N : Nat) (s_self : Nat → Nat → Int32) (v1 v2 v3 v4 : Int32) : Option ((Nat → Nat → Int32)) :=
  ck v1 31 <|
  ck v1 31 <|
  ck (s_self 2 (Int32.toNatClampNeg v1)) 6 <|
  bd1 (m_Md_sum (s_self 16 (Int32.toNatClampNeg (s_self 2 (Int32.toNatClampNeg v1)))) v4) fun r_4 =>
  ck (s_self 2 (Int32.toNatClampNeg v1)) 6 <| nm (st2 s_self 16 (Int32.toNatClampNeg (s_self 2 (Int32.toNatClampNeg v1))) r_4) fun s_self_7 =>
  if v4 = 0 then
    some s_self_7
  else
    l_Md_takeWay_75 N v1 v2 v3 (fun s_self => f_Md_takeWay_199 N s_self) N s_self_7 (-1)
set_option maxHeartbeats 4000000 in
set_option maxRecDepth 100000 in
theorem t_Md_takeWay_39 {p : Program} {l : Launch} {e : Env} {s : State} {m : MethodId} {args : Array Value} {below : List Frame} {meth : Method} {c : Code} {A : Nat → Prop} {D : va_G} {K : Nat → ClassId} (a_self a_least : Nat → Nat) (X : gx p s m args c b_Md_takeWay 8 R_Md w_Md_takeWay D classes (tyK K) A) (hr : meth.sig.returnType = none) (hlk : meth.locks = false) (N : Nat) (f_self : Nat → Nat → Int32) (s_self : Nat → Nat → Int32) (v1 v2 v3 v4 : Int32) (h : f_Md_takeWay_39 N s_self v1 v2 v3 v4 = some f_self) : Gd p l e rm_Md_takeWay s m args below meth c 0 0 (MQ below (sq D classes (tyK K) none [wd_Md K a_self (a_least 0) f_self] A) args s 0 0 A) D classes A 8 39 [wd_Md K a_self (a_least 0) s_self] [(0, .ref (a_self 0)), (1, .int v1), (2, .int v2), (3, .int v3), (4, .int v4)] [] := by
  unfold f_Md_takeWay_39 at h
  refine gd_aload_n X d_Md_takeWay_39 0 rfl ?_
  refine gd_get X (ci := 7) (C := R_Md) (T := F_Md) (N := 36) (v := .ref (a_self 16)) 0 0 rfl rfl rfl (in_Md _) 27 (by decide) (List.mem_cons_of_mem _ fl_Md_60) rfl rfl d_Md_takeWay_40 ?_
  refine gd_aload_n X d_Md_takeWay_43 0 rfl ?_
  refine gd_get X (ci := 7) (C := R_Md) (T := F_Md) (N := 36) (v := .ref (a_self 2)) 0 0 rfl rfl rfl (in_Md _) 6 (by decide) (List.mem_cons_of_mem _ fl_Md_13) rfl rfl d_Md_takeWay_44 ?_
  refine gd_iload_n X d_Md_takeWay_47 1 rfl ?_
  obtain ⟨hi_1, h⟩ := ck_e h
  refine gd_iald X 0 2 0 rfl rfl rfl hi_1 d_Md_takeWay_48 ?_
  refine gd_aload_n X d_Md_takeWay_49 0 rfl ?_
  refine gd_get X (ci := 7) (C := R_Md) (T := F_Md) (N := 36) (v := .ref (a_self 16)) 0 0 rfl rfl rfl (in_Md _) 27 (by decide) (List.mem_cons_of_mem _ fl_Md_60) rfl rfl d_Md_takeWay_50 ?_
  refine gd_aload_n X d_Md_takeWay_53 0 rfl ?_
  refine gd_get X (ci := 7) (C := R_Md) (T := F_Md) (N := 36) (v := .ref (a_self 2)) 0 0 rfl rfl rfl (in_Md _) 6 (by decide) (List.mem_cons_of_mem _ fl_Md_13) rfl rfl d_Md_takeWay_54 ?_
  refine gd_iload_n X d_Md_takeWay_57 1 rfl ?_
  obtain ⟨hi_2, h⟩ := ck_e h
  refine gd_iald X 0 2 0 rfl rfl rfl hi_2 d_Md_takeWay_58 ?_
  obtain ⟨hi_3, h⟩ := ck_e h
  refine gd_iald X 0 16 0 rfl rfl rfl hi_3 d_Md_takeWay_59 ?_
  refine gd_iload X d_Md_takeWay_60 4 rfl ?_
  obtain ⟨r_4, hc_5, h⟩ := bd1_e h
  refine gd_pI X (gd_Sc X (As := [.int (s_self 16 (Int32.toNatClampNeg (s_self 2 (Int32.toNatClampNeg v1)))), .int v4]) (rest := [.int (s_self 2 (Int32.toNatClampNeg v1)), .ref (a_self 16)]) (c_Md_sum l D K (s_self 16 (Int32.toNatClampNeg (s_self 2 (Int32.toNatClampNeg v1)))) v4 r_4 hc_5) 2 (gi_S ml_Md_152 u_Md_sum) rfl ⟨rfl, rfl⟩ (by decide +kernel) ⟨by decide, by decide⟩ rfl rfl (Nat.le_of_ble_eq_true rfl) ⟨Nat.zero_le _, Nat.zero_le _⟩ d_Md_takeWay_62) [] rfl rfl ?_
  obtain ⟨hi_6, h⟩ := ck_e h
  obtain ⟨s_self_7, es_self_7, h⟩ := nm_e' h
  refine gd_iast X (w' := [wd_Md K a_self (a_least 0) s_self_7]) 0 16 0 rfl rfl rfl hi_6 d_Md_takeWay_65 (by rw [es_self_7]; rfl) ?_
  refine gd_iload X d_Md_takeWay_66 4 rfl ?_
  refine gd_if_ne X (tgt := 72) d_Md_takeWay_68 (by decide) (fun c_8 => ?_) (fun c_8 => ?_)
  · replace h := it_n c_8 h
    refine gd_iconst X (v := (-1)) d_Md_takeWay_72 (by decide) ?_
    refine gd_istore X (lv' := [(5, .int (-1)), (0, .ref (a_self 0)), (1, .int v1), (2, .int v2), (3, .int v3), (4, .int v4)]) d_Md_takeWay_73 (by decide) rfl ?_
    refine gd_loc (lv' := [(0, .ref (a_self 0)), (1, .int v1), (2, .int v2), (3, .int v3), (5, .int (-1))]) [1, 2, 3, 4, 0] rfl ?_
    exact tl_Md_takeWay_75 a_self a_least X hr hlk N f_self v1 v2 v3 (fun s_self => f_Md_takeWay_199 N s_self) (fun s_self h => t_Md_takeWay_199 a_self a_least X hr hlk N f_self s_self h) N s_self_7 (-1) h
  · replace h := it_p c_8 h
    cases h
    exact gd_vret X hr hlk d_Md_takeWay_71
def l_Md_takeWay_6 (N : Nat) (s_self : Nat → Nat → Int32) (v1 v2 v3 : Int32) (kx39 : Int32 → Option ((Nat → Nat → Int32))) : Nat → Int32 → Int32 → Option ((Nat → Nat → Int32))
  | 0, _, _ => none
  | n + 1, v4, v5 => f_Md_takeWay_6 N (l_Md_takeWay_6 N s_self v1 v2 v3 kx39 n) kx39 s_self v1 v2 v3 v4 v5
set_option maxHeartbeats 4000000 in
set_option maxRecDepth 100000 in
theorem tl_Md_takeWay_6 {p : Program} {l : Launch} {e : Env} {s : State} {m : MethodId} {args : Array Value} {below : List Frame} {meth : Method} {c : Code} {A : Nat → Prop} {D : va_G} {K : Nat → ClassId} (a_self a_least : Nat → Nat) (X : gx p s m args c b_Md_takeWay 8 R_Md w_Md_takeWay D classes (tyK K) A) (hr : meth.sig.returnType = none) (hlk : meth.locks = false) (N : Nat) (f_self : Nat → Nat → Int32) (s_self : Nat → Nat → Int32) (v1 v2 v3 : Int32) (kx39 : Int32 → Option ((Nat → Nat → Int32))) (hkx39 : ∀ (v4 : Int32), kx39 v4 = some f_self → Gd p l e rm_Md_takeWay s m args below meth c 0 0 (MQ below (sq D classes (tyK K) none [wd_Md K a_self (a_least 0) f_self] A) args s 0 0 A) D classes A 8 39 [wd_Md K a_self (a_least 0) s_self] [(0, .ref (a_self 0)), (1, .int v1), (2, .int v2), (3, .int v3), (4, .int v4)] []) : ∀ (n : Nat) (v4 v5 : Int32), l_Md_takeWay_6 N s_self v1 v2 v3 kx39 n v4 v5 = some f_self → Gd p l e rm_Md_takeWay s m args below meth c 0 0 (MQ below (sq D classes (tyK K) none [wd_Md K a_self (a_least 0) f_self] A) args s 0 0 A) D classes A 8 6 [wd_Md K a_self (a_least 0) s_self] [(0, .ref (a_self 0)), (1, .int v1), (2, .int v2), (3, .int v3), (4, .int v4), (5, .int v5)] [] := by
  intro n
  induction n with
  | zero => intro v4 v5 h; have h : (none : Option ((Nat → Nat → Int32))) = some _ := h; cases h
  | succ n ih =>
    intro v4 v5 h
    exact t_Md_takeWay_6 a_self a_least X hr hlk N f_self s_self v1 v2 v3 v4 v5 (l_Md_takeWay_6 N s_self v1 v2 v3 kx39 n) ih kx39 hkx39 h
def f_Md_takeWay_0 (N : Nat) (s_self : Nat → Nat → Int32) (v1 v2 v3 : Int32) : Option ((Nat → Nat → Int32)) :=
  l_Md_takeWay_6 N s_self v1 v2 v3 (fun v4 => f_Md_takeWay_39 N s_self v1 v2 v3 v4) N 1 0
set_option maxHeartbeats 4000000 in
set_option maxRecDepth 100000 in
theorem t_Md_takeWay_0 {p : Program} {l : Launch} {e : Env} {s : State} {m : MethodId} {args : Array Value} {below : List Frame} {meth : Method} {c : Code} {A : Nat → Prop} {D : va_G} {K : Nat → ClassId} (a_self a_least : Nat → Nat) (X : gx p s m args c b_Md_takeWay 8 R_Md w_Md_takeWay D classes (tyK K) A) (hr : meth.sig.returnType = none) (hlk : meth.locks = false) (N : Nat) (f_self : Nat → Nat → Int32) (s_self : Nat → Nat → Int32) (v1 v2 v3 : Int32) (h : f_Md_takeWay_0 N s_self v1 v2 v3 = some f_self) : Gd p l e rm_Md_takeWay s m args below meth c 0 0 (MQ below (sq D classes (tyK K) none [wd_Md K a_self (a_least 0) f_self] A) args s 0 0 A) D classes A 8 0 [wd_Md K a_self (a_least 0) s_self] [(0, .ref (a_self 0)), (1, .int v1), (2, .int v2), (3, .int v3)] [] := by
  unfold f_Md_takeWay_0 at h
  refine gd_iconst X (v := 1) d_Md_takeWay_0 (by decide) ?_
  refine gd_istore X (lv' := [(4, .int 1), (0, .ref (a_self 0)), (1, .int v1), (2, .int v2), (3, .int v3)]) d_Md_takeWay_1 (by decide) rfl ?_
  refine gd_iconst X (v := 0) d_Md_takeWay_3 (by decide) ?_
  refine gd_istore X (lv' := [(5, .int 0), (4, .int 1), (0, .ref (a_self 0)), (1, .int v1), (2, .int v2), (3, .int v3)]) d_Md_takeWay_4 (by decide) rfl ?_
  refine gd_loc (lv' := [(0, .ref (a_self 0)), (1, .int v1), (2, .int v2), (3, .int v3), (4, .int 1), (5, .int 0)]) [2, 3, 4, 5, 1, 0] rfl ?_
  exact tl_Md_takeWay_6 a_self a_least X hr hlk N f_self s_self v1 v2 v3 (fun v4 => f_Md_takeWay_39 N s_self v1 v2 v3 v4) (fun v4 h => t_Md_takeWay_39 a_self a_least X hr hlk N f_self s_self v1 v2 v3 v4 h) N 1 0 h
def m_Md_takeWay (N : Nat) (s_self : Nat → Nat → Int32) (v1 v2 v3 : Int32) : Option ((Nat → Nat → Int32)) := f_Md_takeWay_0 N s_self v1 v2 v3
set_option maxHeartbeats 4000000 in
set_option maxRecDepth 100000 in
theorem c_Md_takeWay (l : Launch) (D : va_G) (K : Nat → ClassId) (a_self a_least : Nat → Nat) (N : Nat) (s_self : Nat → Nat → Int32) (v1 v2 v3 : Int32) (f_self : Nat → Nat → Int32) (h : m_Md_takeWay N s_self v1 v2 v3 = some f_self) : SMet l y_Md_takeWay w_Md_takeWay rm_Md_takeWay D classes (tyK K) [.ref (a_self 0), .int v1, .int v2, .int v3] none [wd_Md K a_self (a_least 0) s_self] [wd_Md K a_self (a_least 0) f_self] := by
  refine sm_of R_Md (by decide) rfl rfl (Nat.le_of_ble_eq_true rfl) ?_
  intro p e s m below meth c A X hr hlk
  refine gd_loc (lv' := [(0, .ref (a_self 0)), (1, .int v1), (2, .int v2), (3, .int v3)]) [0, 1, 2, 3] rfl ?_
  exact t_Md_takeWay_0 a_self a_least X hr hlk N f_self s_self v1 v2 v3 h
