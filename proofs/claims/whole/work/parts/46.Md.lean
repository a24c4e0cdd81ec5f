abbrev b_Md_fits : ByteArray := prog_10_method_42_code
def y_Md_fits : MethodName := ⟨R_Md, "fits", "(I)I"⟩
def w_Md_fits : List Cond := .code y_Md_fits b_Md_fits 6 (some .int) :: TB
theorem k_Md_fits : Cond.code y_Md_fits b_Md_fits 6 (some .int) ∈ TB := tb_of 981 (by decide +kernel) (by decide +kernel)
theorem d_Md_fits_0 : decode b_Md_fits 0 = .ok (.iconst 1, 1) := by decide +kernel
theorem d_Md_fits_1 : decode b_Md_fits 1 = .ok (.istore_n 2, 1) := by decide +kernel
theorem d_Md_fits_2 : decode b_Md_fits 2 = .ok (.aload_n 0, 1) := by decide +kernel
theorem d_Md_fits_3 : decode b_Md_fits 3 = .ok (.getfield 70, 3) := by decide +kernel
theorem d_Md_fits_6 : decode b_Md_fits 6 = .ok (.iconst 0, 1) := by decide +kernel
theorem d_Md_fits_7 : decode b_Md_fits 7 = .ok (.iload_n 1, 1) := by decide +kernel
theorem d_Md_fits_8 : decode b_Md_fits 8 = .ok (.iastore, 1) := by decide +kernel
theorem d_Md_fits_9 : decode b_Md_fits 9 = .ok (.iconst 0, 1) := by decide +kernel
theorem d_Md_fits_10 : decode b_Md_fits 10 = .ok (.istore_n 3, 1) := by decide +kernel
theorem d_Md_fits_11 : decode b_Md_fits 11 = .ok (.iload_n 3, 1) := by decide +kernel
theorem d_Md_fits_12 : decode b_Md_fits 12 = .ok (.aload_n 0, 1) := by decide +kernel
theorem d_Md_fits_13 : decode b_Md_fits 13 = .ok (.getfield 198, 3) := by decide +kernel
theorem d_Md_fits_16 : decode b_Md_fits 16 = .ok (.if_icmp .ge 132, 3) := by decide +kernel
theorem d_Md_fits_19 : decode b_Md_fits 19 = .ok (.aload_n 0, 1) := by decide +kernel
theorem d_Md_fits_20 : decode b_Md_fits 20 = .ok (.iload_n 3, 1) := by decide +kernel
theorem d_Md_fits_21 : decode b_Md_fits 21 = .ok (.putfield 28, 3) := by decide +kernel
theorem d_Md_fits_24 : decode b_Md_fits 24 = .ok (.iload_n 2, 1) := by decide +kernel
theorem d_Md_fits_25 : decode b_Md_fits 25 = .ok (.ifCond .ne 5, 3) := by decide +kernel
theorem d_Md_fits_28 : decode b_Md_fits 28 = .ok (.iconst 4, 1) := by decide +kernel
theorem d_Md_fits_29 : decode b_Md_fits 29 = .ok (.ireturn, 1) := by decide +kernel
theorem d_Md_fits_30 : decode b_Md_fits 30 = .ok (.aload_n 0, 1) := by decide +kernel
theorem d_Md_fits_31 : decode b_Md_fits 31 = .ok (.aload_n 0, 1) := by decide +kernel
theorem d_Md_fits_32 : decode b_Md_fits 32 = .ok (.getfield 25, 3) := by decide +kernel
theorem d_Md_fits_35 : decode b_Md_fits 35 = .ok (.iload_n 3, 1) := by decide +kernel
theorem d_Md_fits_36 : decode b_Md_fits 36 = .ok (.iaload, 1) := by decide +kernel
theorem d_Md_fits_37 : decode b_Md_fits 37 = .ok (.aload_n 0, 1) := by decide +kernel
theorem d_Md_fits_38 : decode b_Md_fits 38 = .ok (.getfield 70, 3) := by decide +kernel
theorem d_Md_fits_41 : decode b_Md_fits 41 = .ok (.iload_n 2, 1) := by decide +kernel
theorem d_Md_fits_42 : decode b_Md_fits 42 = .ok (.iconst 1, 1) := by decide +kernel
theorem d_Md_fits_43 : decode b_Md_fits 43 = .ok (.isub, 1) := by decide +kernel
theorem d_Md_fits_44 : decode b_Md_fits 44 = .ok (.iaload, 1) := by decide +kernel
theorem d_Md_fits_45 : decode b_Md_fits 45 = .ok (.invokevirtual 204, 3) := by decide +kernel
theorem d_Md_fits_48 : decode b_Md_fits 48 = .ok (.istore 4, 2) := by decide +kernel
theorem d_Md_fits_50 : decode b_Md_fits 50 = .ok (.iload 4, 2) := by decide +kernel
theorem d_Md_fits_52 : decode b_Md_fits 52 = .ok (.ifCond .le 6, 3) := by decide +kernel
theorem d_Md_fits_55 : decode b_Md_fits 55 = .ok (.iload 4, 2) := by decide +kernel
theorem d_Md_fits_57 : decode b_Md_fits 57 = .ok (.ireturn, 1) := by decide +kernel
theorem d_Md_fits_58 : decode b_Md_fits 58 = .ok (.iinc 2 (-1), 3) := by decide +kernel
theorem d_Md_fits_61 : decode b_Md_fits 61 = .ok (.aload_n 0, 1) := by decide +kernel
theorem d_Md_fits_62 : decode b_Md_fits 62 = .ok (.getfield 25, 3) := by decide +kernel
theorem d_Md_fits_65 : decode b_Md_fits 65 = .ok (.iload_n 3, 1) := by decide +kernel
theorem d_Md_fits_66 : decode b_Md_fits 66 = .ok (.iaload, 1) := by decide +kernel
theorem d_Md_fits_67 : decode b_Md_fits 67 = .ok (.ifCond .ge 7, 3) := by decide +kernel
theorem d_Md_fits_70 : decode b_Md_fits 70 = .ok (.iconst (-1), 1) := by decide +kernel
theorem d_Md_fits_71 : decode b_Md_fits 71 = .ok (.goto 15, 3) := by decide +kernel
theorem d_Md_fits_74 : decode b_Md_fits 74 = .ok (.aload_n 0, 1) := by decide +kernel
theorem d_Md_fits_75 : decode b_Md_fits 75 = .ok (.aload_n 0, 1) := by decide +kernel
theorem d_Md_fits_76 : decode b_Md_fits 76 = .ok (.getfield 25, 3) := by decide +kernel
theorem d_Md_fits_79 : decode b_Md_fits 79 = .ok (.iload_n 3, 1) := by decide +kernel
theorem d_Md_fits_80 : decode b_Md_fits 80 = .ok (.iaload, 1) := by decide +kernel
theorem d_Md_fits_81 : decode b_Md_fits 81 = .ok (.invokevirtual 112, 3) := by decide +kernel
theorem d_Md_fits_84 : decode b_Md_fits 84 = .ok (.iconst 1, 1) := by decide +kernel
theorem d_Md_fits_85 : decode b_Md_fits 85 = .ok (.isub, 1) := by decide +kernel
theorem d_Md_fits_86 : decode b_Md_fits 86 = .ok (.istore 5, 2) := by decide +kernel
theorem d_Md_fits_88 : decode b_Md_fits 88 = .ok (.iload 5, 2) := by decide +kernel
theorem d_Md_fits_90 : decode b_Md_fits 90 = .ok (.ifCond .lt 52, 3) := by decide +kernel
theorem d_Md_fits_93 : decode b_Md_fits 93 = .ok (.aload_n 0, 1) := by decide +kernel
theorem d_Md_fits_94 : decode b_Md_fits 94 = .ok (.aload_n 0, 1) := by decide +kernel
theorem d_Md_fits_95 : decode b_Md_fits 95 = .ok (.getfield 25, 3) := by decide +kernel
theorem d_Md_fits_98 : decode b_Md_fits 98 = .ok (.iload_n 3, 1) := by decide +kernel
theorem d_Md_fits_99 : decode b_Md_fits 99 = .ok (.iaload, 1) := by decide +kernel
theorem d_Md_fits_100 : decode b_Md_fits 100 = .ok (.iload 5, 2) := by decide +kernel
theorem d_Md_fits_102 : decode b_Md_fits 102 = .ok (.invokevirtual 201, 3) := by decide +kernel
theorem d_Md_fits_105 : decode b_Md_fits 105 = .ok (.ifCond .eq 31, 3) := by decide +kernel
theorem d_Md_fits_108 : decode b_Md_fits 108 = .ok (.aload_n 0, 1) := by decide +kernel
theorem d_Md_fits_109 : decode b_Md_fits 109 = .ok (.getfield 70, 3) := by decide +kernel
theorem d_Md_fits_112 : decode b_Md_fits 112 = .ok (.iload_n 2, 1) := by decide +kernel
theorem d_Md_fits_113 : decode b_Md_fits 113 = .ok (.aload_n 0, 1) := by decide +kernel
theorem d_Md_fits_114 : decode b_Md_fits 114 = .ok (.getfield 7, 3) := by decide +kernel
theorem d_Md_fits_117 : decode b_Md_fits 117 = .ok (.iconst (-1), 1) := by decide +kernel
theorem d_Md_fits_118 : decode b_Md_fits 118 = .ok (.aload_n 0, 1) := by decide +kernel
theorem d_Md_fits_119 : decode b_Md_fits 119 = .ok (.aload_n 0, 1) := by decide +kernel
theorem d_Md_fits_120 : decode b_Md_fits 120 = .ok (.getfield 25, 3) := by decide +kernel
theorem d_Md_fits_123 : decode b_Md_fits 123 = .ok (.iload_n 3, 1) := by decide +kernel
theorem d_Md_fits_124 : decode b_Md_fits 124 = .ok (.iaload, 1) := by decide +kernel
theorem d_Md_fits_125 : decode b_Md_fits 125 = .ok (.iload 5, 2) := by decide +kernel
theorem d_Md_fits_127 : decode b_Md_fits 127 = .ok (.invokevirtual 161, 3) := by decide +kernel
theorem d_Md_fits_130 : decode b_Md_fits 130 = .ok (.isub, 1) := by decide +kernel
theorem d_Md_fits_131 : decode b_Md_fits 131 = .ok (.iaload, 1) := by decide +kernel
theorem d_Md_fits_132 : decode b_Md_fits 132 = .ok (.iastore, 1) := by decide +kernel
theorem d_Md_fits_133 : decode b_Md_fits 133 = .ok (.iinc 2 1, 3) := by decide +kernel
theorem d_Md_fits_136 : decode b_Md_fits 136 = .ok (.iinc 5 (-1), 3) := by decide +kernel
theorem d_Md_fits_139 : decode b_Md_fits 139 = .ok (.goto (-51), 3) := by decide +kernel
theorem d_Md_fits_142 : decode b_Md_fits 142 = .ok (.iinc 3 1, 3) := by decide +kernel
theorem d_Md_fits_145 : decode b_Md_fits 145 = .ok (.goto (-134), 3) := by decide +kernel
theorem d_Md_fits_148 : decode b_Md_fits 148 = .ok (.aload_n 0, 1) := by decide +kernel
theorem d_Md_fits_149 : decode b_Md_fits 149 = .ok (.iload_n 2, 1) := by decide +kernel
theorem d_Md_fits_150 : decode b_Md_fits 150 = .ok (.ifCond .le 10, 3) := by decide +kernel
theorem d_Md_fits_153 : decode b_Md_fits 153 = .ok (.aload_n 0, 1) := by decide +kernel
theorem d_Md_fits_154 : decode b_Md_fits 154 = .ok (.getfield 198, 3) := by decide +kernel
theorem d_Md_fits_157 : decode b_Md_fits 157 = .ok (.goto 4, 3) := by decide +kernel
theorem d_Md_fits_160 : decode b_Md_fits 160 = .ok (.iconst (-1), 1) := by decide +kernel
theorem d_Md_fits_161 : decode b_Md_fits 161 = .ok (.putfield 28, 3) := by decide +kernel
theorem d_Md_fits_164 : decode b_Md_fits 164 = .ok (.iload_n 2, 1) := by decide +kernel
theorem d_Md_fits_165 : decode b_Md_fits 165 = .ok (.ifCond .le 7, 3) := by decide +kernel
theorem d_Md_fits_168 : decode b_Md_fits 168 = .ok (.iconst 1, 1) := by decide +kernel
theorem d_Md_fits_169 : decode b_Md_fits 169 = .ok (.goto 4, 3) := by decide +kernel
theorem d_Md_fits_172 : decode b_Md_fits 172 = .ok (.iconst 0, 1) := by decide +kernel
theorem d_Md_fits_173 : decode b_Md_fits 173 = .ok (.ireturn, 1) := by decide +kernel
theorem fl_Md_70 : Cond.fieldLink R_Md 70 "RuleTreesModel" "wanted" "[I" ∈ TB := tb_of 750 (by decide +kernel) (by decide +kernel)
theorem fl_Md_28 : Cond.fieldLink R_Md 28 "RuleTreesModel" "grownPlace" "I" ∈ TB := tb_of 733 (by decide +kernel) (by decide +kernel)
theorem ml_Md_204 : Cond.methodLink R_Md 204 ⟨"RuleTreesModel", "look", "(II)I"⟩ ∈ TB := tb_of 982 (by decide +kernel) (by decide +kernel)
theorem u_Md_look : (Cond.instanceMethod y_Md_look ∈ TB ∧ Cond.selects R_Md y_Md_look y_Md_look ∈ TB) ∧ Cond.initialized R_Md ∈ TB ∧ Cond.code y_Md_look b_Md_look 3 (some .int) ∈ TB := ⟨⟨(tb_of 984 (by decide +kernel) (by decide +kernel)), (tb_of 56 (by decide +kernel) (by decide +kernel))⟩, (tb_of 70 (by decide +kernel) (by decide +kernel)), k_Md_look⟩
abbrev rm_Md_fits : Room := { frames := 2, cells := 0, slots := 0, locals := 49 }
def f_Md_fits_88 (N : Nat) (kb : (Nat → Nat → Int32) → Int32 → Int32 → Option ((Int32) × (Nat → Nat → Int32))) (kx142 : (Nat → Nat → Int32) → Int32 → Option ((Int32) × (Nat → Nat → Int32))) (s_self : Nat → Nat → Int32) (v2 v3 v5 : Int32) : Option ((Int32) × (Nat → Nat → Int32)) :=
  if v5 < 0 then
    kx142 s_self v2
  else
    ck v3 200 <|
    bd1 (m_Md_isFirst N s_self (s_self 6 (Int32.toNatClampNeg v3)) v5) fun r_3 =>
    if r_3 = 0 then
      nm (v5 + (-1)) fun v5_6 =>
      kb s_self v2 v5_6
    else
      ck v3 200 <|
      bd1 (m_Md_variableAt N s_self (s_self 6 (Int32.toNatClampNeg v3)) v5) fun r_8 =>
      ck ((-1) - r_8) 20 <|
      ck v2 1000 <| nm (st2 s_self 19 (Int32.toNatClampNeg v2) (s_self 1 (Int32.toNatClampNeg ((-1) - r_8)))) fun s_self_12 =>
      nm (v2 + 1) fun v2_13 =>
      nm (v5 + (-1)) fun v5_14 =>
      kb s_self_12 v2_13 v5_14
set_option maxHeartbeats 4000000 in
set_option maxRecDepth 100000 in
theorem t_Md_fits_88 {p : Program} {l : Launch} {e : Env} {s : State} {m : MethodId} {args : Array Value} {below : List Frame} {meth : Method} {c : Code} {A : Nat → Prop} {D : va_G} {K : Nat → ClassId} (a_self a_least : Nat → Nat) (X : gx p s m args c b_Md_fits 6 R_Md w_Md_fits D classes (tyK K) A) (hr : meth.sig.returnType = some .int) (hlk : meth.locks = false) (N : Nat) (r : Int32) (f_self : Nat → Nat → Int32) (s_self : Nat → Nat → Int32) (v2 v3 v5 : Int32) (kb : (Nat → Nat → Int32) → Int32 → Int32 → Option ((Int32) × (Nat → Nat → Int32))) (hkb : ∀ (s_self : Nat → Nat → Int32) (v2 v5 : Int32), kb s_self v2 v5 = some (r, f_self) → Gd p l e rm_Md_fits s m args below meth c 0 0 (MQ below (sq D classes (tyK K) (some (.int r)) [wd_Md K a_self (a_least 0) f_self] A) args s 0 0 A) D classes A 6 88 [wd_Md K a_self (a_least 0) s_self] [(0, .ref (a_self 0)), (2, .int v2), (3, .int v3), (5, .int v5)] []) (kx142 : (Nat → Nat → Int32) → Int32 → Option ((Int32) × (Nat → Nat → Int32))) (hkx142 : ∀ (s_self : Nat → Nat → Int32) (v2 : Int32), kx142 s_self v2 = some (r, f_self) → Gd p l e rm_Md_fits s m args below meth c 0 0 (MQ below (sq D classes (tyK K) (some (.int r)) [wd_Md K a_self (a_least 0) f_self] A) args s 0 0 A) D classes A 6 142 [wd_Md K a_self (a_least 0) s_self] [(0, .ref (a_self 0)), (2, .int v2), (3, .int v3)] []) (h : f_Md_fits_88 N kb kx142 s_self v2 v3 v5 = some (r, f_self)) : Gd p l e rm_Md_fits s m args below meth c 0 0 (MQ below (sq D classes (tyK K) (some (.int r)) [wd_Md K a_self (a_least 0) f_self] A) args s 0 0 A) D classes A 6 88 [wd_Md K a_self (a_least 0) s_self] [(0, .ref (a_self 0)), (2, .int v2), (3, .int v3), (5, .int v5)] [] := by
  unfold f_Md_fits_88 at h
  refine gd_iload X d_Md_fits_88 3 rfl ?_
  refine gd_if_lt X (tgt := 142) d_Md_fits_90 (by decide) (fun c_1 => ?_) (fun c_1 => ?_)
  · replace h := it_p c_1 h
    refine gd_loc (lv' := [(0, .ref (a_self 0)), (2, .int v2), (3, .int v3)]) [0, 1, 2] rfl ?_
    exact hkx142 s_self v2 h
  · replace h := it_n c_1 h
    refine gd_aload_n X d_Md_fits_93 0 rfl ?_
    refine gd_aload_n X d_Md_fits_94 0 rfl ?_
    refine gd_get X (ci := 7) (C := R_Md) (T := F_Md) (N := 36) (v := .ref (a_self 6)) 0 0 rfl rfl rfl (in_Md _) 11 (by decide) (List.mem_cons_of_mem _ fl_Md_25) rfl rfl d_Md_fits_95 ?_
    refine gd_iload_n X d_Md_fits_98 2 rfl ?_
    obtain ⟨hi_2, h⟩ := ck_e h
    refine gd_iald X 0 6 0 rfl rfl rfl hi_2 d_Md_fits_99 ?_
    refine gd_iload X d_Md_fits_100 3 rfl ?_
    obtain ⟨r_3, hc_4, h⟩ := bd1_e h
    refine gd_fI X (gd_V X (As := [.int (s_self 6 (Int32.toNatClampNeg v3)), .int v5]) (rest := []) (c_Md_isFirst l D K a_self a_least N s_self (s_self 6 (Int32.toNatClampNeg v3)) v5 r_3 hc_4) 2 (gi_V ml_Md_201 u_Md_isFirst) rfl ⟨rfl, rfl⟩ (by decide +kernel) ⟨by decide, by decide⟩ (ci := 7) rfl rfl rfl rfl rfl rfl (Nat.le_of_ble_eq_true rfl) ⟨Nat.zero_le _, Nat.zero_le _⟩ d_Md_fits_102) ?_
    refine gd_if_eq X (tgt := 136) d_Md_fits_105 (by decide) (fun c_5 => ?_) (fun c_5 => ?_)
    · replace h := it_p c_5 h
      obtain ⟨v5_6, ev5_6, h⟩ := nm_e' h
      refine gd_iinc X (v := v5_6) (lv' := [(5, .int v5_6), (0, .ref (a_self 0)), (2, .int v2), (3, .int v3)]) d_Md_fits_136 (k := 3) rfl (by rw [ev5_6, show Int32.ofInt (-1) = (-1) from by decide]) (by decide) rfl ?_
      refine gd_goto X (tgt := 88) d_Md_fits_139 (by decide) ?_
      refine gd_loc (lv' := [(0, .ref (a_self 0)), (2, .int v2), (3, .int v3), (5, .int v5_6)]) [1, 2, 3, 0] rfl ?_
      exact hkb s_self v2 v5_6 h
    · replace h := it_n c_5 h
      refine gd_aload_n X d_Md_fits_108 0 rfl ?_
      refine gd_get X (ci := 7) (C := R_Md) (T := F_Md) (N := 36) (v := .ref (a_self 19)) 0 0 rfl rfl rfl (in_Md _) 30 (by decide) (List.mem_cons_of_mem _ fl_Md_70) rfl rfl d_Md_fits_109 ?_
      refine gd_iload_n X d_Md_fits_112 1 rfl ?_
      refine gd_aload_n X d_Md_fits_113 0 rfl ?_
      refine gd_get X (ci := 7) (C := R_Md) (T := F_Md) (N := 36) (v := .ref (a_self 1)) 0 0 rfl rfl rfl (in_Md _) 3 (by decide) (List.mem_cons_of_mem _ fl_Md_7) rfl rfl d_Md_fits_114 ?_
      refine gd_iconst X (v := (-1)) d_Md_fits_117 (by decide) ?_
      refine gd_aload_n X d_Md_fits_118 0 rfl ?_
      refine gd_aload_n X d_Md_fits_119 0 rfl ?_
      refine gd_get X (ci := 7) (C := R_Md) (T := F_Md) (N := 36) (v := .ref (a_self 6)) 0 0 rfl rfl rfl (in_Md _) 11 (by decide) (List.mem_cons_of_mem _ fl_Md_25) rfl rfl d_Md_fits_120 ?_
      refine gd_iload_n X d_Md_fits_123 2 rfl ?_
      obtain ⟨hi_7, h⟩ := ck_e h
      refine gd_iald X 0 6 0 rfl rfl rfl hi_7 d_Md_fits_124 ?_
      refine gd_iload X d_Md_fits_125 3 rfl ?_
      obtain ⟨r_8, hc_9, h⟩ := bd1_e h
      refine gd_fI X (gd_V X (As := [.int (s_self 6 (Int32.toNatClampNeg v3)), .int v5]) (rest := [.int (-1), .ref (a_self 1), .int v2, .ref (a_self 19)]) (c_Md_variableAt l D K a_self a_least N s_self (s_self 6 (Int32.toNatClampNeg v3)) v5 r_8 hc_9) 2 (gi_V ml_Md_161 u_Md_variableAt) rfl ⟨rfl, rfl⟩ (by decide +kernel) ⟨by decide, by decide⟩ (ci := 7) rfl rfl rfl rfl rfl rfl (Nat.le_of_ble_eq_true rfl) ⟨Nat.zero_le _, Nat.zero_le _⟩ d_Md_fits_127) ?_
      refine gd_isub X d_Md_fits_130 ?_
      obtain ⟨hi_10, h⟩ := ck_e h
      refine gd_iald X 0 1 0 rfl rfl rfl hi_10 d_Md_fits_131 ?_
      obtain ⟨hi_11, h⟩ := ck_e h
      obtain ⟨s_self_12, es_self_12, h⟩ := nm_e' h
      refine gd_iast X (w' := [wd_Md K a_self (a_least 0) s_self_12]) 0 19 0 rfl rfl rfl hi_11 d_Md_fits_132 (by rw [es_self_12]; rfl) ?_
      obtain ⟨v2_13, ev2_13, h⟩ := nm_e' h
      refine gd_iinc X (v := v2_13) (lv' := [(2, .int v2_13), (0, .ref (a_self 0)), (3, .int v3), (5, .int v5)]) d_Md_fits_133 (k := 1) rfl (by rw [ev2_13]; rfl) (by decide) rfl ?_
      obtain ⟨v5_14, ev5_14, h⟩ := nm_e' h
      refine gd_iinc X (v := v5_14) (lv' := [(5, .int v5_14), (2, .int v2_13), (0, .ref (a_self 0)), (3, .int v3)]) d_Md_fits_136 (k := 3) rfl (by rw [ev5_14, show Int32.ofInt (-1) = (-1) from by decide]) (by decide) rfl ?_
      refine gd_goto X (tgt := 88) d_Md_fits_139 (by decide) ?_
      refine gd_loc (lv' := [(0, .ref (a_self 0)), (2, .int v2_13), (3, .int v3), (5, .int v5_14)]) [2, 1, 3, 0] rfl ?_
      exact hkb s_self_12 v2_13 v5_14 h
def f_Md_fits_142 (N : Nat) (kb : (Nat → Nat → Int32) → Int32 → Int32 → Option ((Int32) × (Nat → Nat → Int32))) (kx28 : (Nat → Nat → Int32) → Option ((Int32) × (Nat → Nat → Int32))) (kx55 : (Nat → Nat → Int32) → Int32 → Option ((Int32) × (Nat → Nat → Int32))) (kx148 : (Nat → Nat → Int32) → Int32 → Option ((Int32) × (Nat → Nat → Int32))) (s_self : Nat → Nat → Int32) (v2 v3 : Int32) : Option ((Int32) × (Nat → Nat → Int32)) :=
  nm (v3 + 1) fun v3_1 =>
  kb s_self v2 v3_1
set_option maxHeartbeats 4000000 in
set_option maxRecDepth 100000 in
theorem t_Md_fits_142 {p : Program} {l : Launch} {e : Env} {s : State} {m : MethodId} {args : Array Value} {below : List Frame} {meth : Method} {c : Code} {A : Nat → Prop} {D : va_G} {K : Nat → ClassId} (a_self a_least : Nat → Nat) (X : gx p s m args c b_Md_fits 6 R_Md w_Md_fits D classes (tyK K) A) (hr : meth.sig.returnType = some .int) (hlk : meth.locks = false) (N : Nat) (r : Int32) (f_self : Nat → Nat → Int32) (s_self : Nat → Nat → Int32) (v2 v3 : Int32) (kb : (Nat → Nat → Int32) → Int32 → Int32 → Option ((Int32) × (Nat → Nat → Int32))) (hkb : ∀ (s_self : Nat → Nat → Int32) (v2 v3 : Int32), kb s_self v2 v3 = some (r, f_self) → Gd p l e rm_Md_fits s m args below meth c 0 0 (MQ below (sq D classes (tyK K) (some (.int r)) [wd_Md K a_self (a_least 0) f_self] A) args s 0 0 A) D classes A 6 11 [wd_Md K a_self (a_least 0) s_self] [(0, .ref (a_self 0)), (2, .int v2), (3, .int v3)] []) (kx28 : (Nat → Nat → Int32) → Option ((Int32) × (Nat → Nat → Int32))) (hkx28 : ∀ (s_self : Nat → Nat → Int32), kx28 s_self = some (r, f_self) → Gd p l e rm_Md_fits s m args below meth c 0 0 (MQ below (sq D classes (tyK K) (some (.int r)) [wd_Md K a_self (a_least 0) f_self] A) args s 0 0 A) D classes A 6 28 [wd_Md K a_self (a_least 0) s_self] [] []) (kx55 : (Nat → Nat → Int32) → Int32 → Option ((Int32) × (Nat → Nat → Int32))) (hkx55 : ∀ (s_self : Nat → Nat → Int32) (v4 : Int32), kx55 s_self v4 = some (r, f_self) → Gd p l e rm_Md_fits s m args below meth c 0 0 (MQ below (sq D classes (tyK K) (some (.int r)) [wd_Md K a_self (a_least 0) f_self] A) args s 0 0 A) D classes A 6 55 [wd_Md K a_self (a_least 0) s_self] [(4, .int v4)] []) (kx148 : (Nat → Nat → Int32) → Int32 → Option ((Int32) × (Nat → Nat → Int32))) (hkx148 : ∀ (s_self : Nat → Nat → Int32) (v2 : Int32), kx148 s_self v2 = some (r, f_self) → Gd p l e rm_Md_fits s m args below meth c 0 0 (MQ below (sq D classes (tyK K) (some (.int r)) [wd_Md K a_self (a_least 0) f_self] A) args s 0 0 A) D classes A 6 148 [wd_Md K a_self (a_least 0) s_self] [(0, .ref (a_self 0)), (2, .int v2)] []) (h : f_Md_fits_142 N kb kx28 kx55 kx148 s_self v2 v3 = some (r, f_self)) : Gd p l e rm_Md_fits s m args below meth c 0 0 (MQ below (sq D classes (tyK K) (some (.int r)) [wd_Md K a_self (a_least 0) f_self] A) args s 0 0 A) D classes A 6 142 [wd_Md K a_self (a_least 0) s_self] [(0, .ref (a_self 0)), (2, .int v2), (3, .int v3)] [] := by
  unfold f_Md_fits_142 at h
  obtain ⟨v3_1, ev3_1, h⟩ := nm_e' h
  refine gd_iinc X (v := v3_1) (lv' := [(3, .int v3_1), (0, .ref (a_self 0)), (2, .int v2)]) d_Md_fits_142 (k := 2) rfl (by rw [ev3_1]; rfl) (by decide) rfl ?_
  refine gd_goto X (tgt := 11) d_Md_fits_145 (by decide) ?_
  refine gd_loc (lv' := [(0, .ref (a_self 0)), (2, .int v2), (3, .int v3_1)]) [1, 2, 0] rfl ?_
  exact hkb s_self v2 v3_1 h
def l_Md_fits_88 (N : Nat) (v3 : Int32) (kx142 : (Nat → Nat → Int32) → Int32 → Option ((Int32) × (Nat → Nat → Int32))) : Nat → (Nat → Nat → Int32) → Int32 → Int32 → Option ((Int32) × (Nat → Nat → Int32))
  | 0, _, _, _ => none
  | n + 1, s_self, v2, v5 => f_Md_fits_88 N (l_Md_fits_88 N v3 kx142 n) kx142 s_self v2 v3 v5
set_option maxHeartbeats 4000000 in
set_option maxRecDepth 100000 in
theorem tl_Md_fits_88 {p : Program} {l : Launch} {e : Env} {s : State} {m : MethodId} {args : Array Value} {below : List Frame} {meth : Method} {c : Code} {A : Nat → Prop} {D : va_G} {K : Nat → ClassId} (a_self a_least : Nat → Nat) (X : gx p s m args c b_Md_fits 6 R_Md w_Md_fits D classes (tyK K) A) (hr : meth.sig.returnType = some .int) (hlk : meth.locks = false) (N : Nat) (r : Int32) (f_self : Nat → Nat → Int32) (v3 : Int32) (kx142 : (Nat → Nat → Int32) → Int32 → Option ((Int32) × (Nat → Nat → Int32))) (hkx142 : ∀ (s_self : Nat → Nat → Int32) (v2 : Int32), kx142 s_self v2 = some (r, f_self) → Gd p l e rm_Md_fits s m args below meth c 0 0 (MQ below (sq D classes (tyK K) (some (.int r)) [wd_Md K a_self (a_least 0) f_self] A) args s 0 0 A) D classes A 6 142 [wd_Md K a_self (a_least 0) s_self] [(0, .ref (a_self 0)), (2, .int v2), (3, .int v3)] []) : ∀ (n : Nat) (s_self : Nat → Nat → Int32) (v2 v5 : Int32), l_Md_fits_88 N v3 kx142 n s_self v2 v5 = some (r, f_self) → Gd p l e rm_Md_fits s m args below meth c 0 0 (MQ below (sq D classes (tyK K) (some (.int r)) [wd_Md K a_self (a_least 0) f_self] A) args s 0 0 A) D classes A 6 88 [wd_Md K a_self (a_least 0) s_self] [(0, .ref (a_self 0)), (2, .int v2), (3, .int v3), (5, .int v5)] [] := by
  intro n
  induction n with
  | zero => intro s_self v2 v5 h; have h : (none : Option ((Int32) × (Nat → Nat → Int32))) = some _ := h; cases h
  | succ n ih =>
    intro s_self v2 v5 h
    exact t_Md_fits_88 a_self a_least X hr hlk N r f_self s_self v2 v3 v5 (l_Md_fits_88 N v3 kx142 n) ih kx142 hkx142 h
def f_Md_fits_11 (N : Nat) (kb : (Nat → Nat → Int32) → Int32 → Int32 → Option ((Int32) × (Nat → Nat → Int32))) (kx28 : (Nat → Nat → Int32) → Option ((Int32) × (Nat → Nat → Int32))) (kx55 : (Nat → Nat → Int32) → Int32 → Option ((Int32) × (Nat → Nat → Int32))) (kx148 : (Nat → Nat → Int32) → Int32 → Option ((Int32) × (Nat → Nat → Int32))) (s_self : Nat → Nat → Int32) (v2 v3 : Int32) : Option ((Int32) × (Nat → Nat → Int32)) :=
  if (s_self 0 12) ≤ v3 then
    kx148 s_self v2
  else
    nm (st2 s_self 0 13 v3) fun s_self_2 =>
    if v2 = 0 then
      kx28 s_self_2
    else
      ck v3 200 <|
      ck (v2 - 1) 1000 <|
      bd1 (m_Md_look s_self_2 (s_self_2 6 (Int32.toNatClampNeg v3)) (s_self_2 19 (Int32.toNatClampNeg (v2 - 1)))) fun r_6 =>
      if r_6 ≤ 0 then
        nm (v2 + (-1)) fun v2_9 =>
        ck v3 200 <|
        if 0 ≤ (s_self_2 6 (Int32.toNatClampNeg v3)) then
          ck v3 200 <|
          bd1 (m_Md_variablesIn N s_self_2 (s_self_2 6 (Int32.toNatClampNeg v3))) fun r_13 =>
          nm (r_13 - 1) fun v5_15 =>
          l_Md_fits_88 N v3 (fun s_self v2 => f_Md_fits_142 N kb kx28 kx55 kx148 s_self v2 v3) N s_self_2 v2_9 v5_15
        else
          l_Md_fits_88 N v3 (fun s_self v2 => f_Md_fits_142 N kb kx28 kx55 kx148 s_self v2 v3) N s_self_2 v2_9 (-1)
      else
        kx55 s_self_2 r_6
set_option maxHeartbeats 4000000 in
set_option maxRecDepth 100000 in
theorem t_Md_fits_11 {p : Program} {l : Launch} {e : Env} {s : State} {m : MethodId} {args : Array Value} {below : List Frame} {meth : Method} {c : Code} {A : Nat → Prop} {D : va_G} {K : Nat → ClassId} (a_self a_least : Nat → Nat) (X : gx p s m args c b_Md_fits 6 R_Md w_Md_fits D classes (tyK K) A) (hr : meth.sig.returnType = some .int) (hlk : meth.locks = false) (N : Nat) (r : Int32) (f_self : Nat → Nat → Int32) (s_self : Nat → Nat → Int32) (v2 v3 : Int32) (kb : (Nat → Nat → Int32) → Int32 → Int32 → Option ((Int32) × (Nat → Nat → Int32))) (hkb : ∀ (s_self : Nat → Nat → Int32) (v2 v3 : Int32), kb s_self v2 v3 = some (r, f_self) → Gd p l e rm_Md_fits s m args below meth c 0 0 (MQ below (sq D classes (tyK K) (some (.int r)) [wd_Md K a_self (a_least 0) f_self] A) args s 0 0 A) D classes A 6 11 [wd_Md K a_self (a_least 0) s_self] [(0, .ref (a_self 0)), (2, .int v2), (3, .int v3)] []) (kx28 : (Nat → Nat → Int32) → Option ((Int32) × (Nat → Nat → Int32))) (hkx28 : ∀ (s_self : Nat → Nat → Int32), kx28 s_self = some (r, f_self) → Gd p l e rm_Md_fits s m args below meth c 0 0 (MQ below (sq D classes (tyK K) (some (.int r)) [wd_Md K a_self (a_least 0) f_self] A) args s 0 0 A) D classes A 6 28 [wd_Md K a_self (a_least 0) s_self] [] []) (kx55 : (Nat → Nat → Int32) → Int32 → Option ((Int32) × (Nat → Nat → Int32))) (hkx55 : ∀ (s_self : Nat → Nat → Int32) (v4 : Int32), kx55 s_self v4 = some (r, f_self) → Gd p l e rm_Md_fits s m args below meth c 0 0 (MQ below (sq D classes (tyK K) (some (.int r)) [wd_Md K a_self (a_least 0) f_self] A) args s 0 0 A) D classes A 6 55 [wd_Md K a_self (a_least 0) s_self] [(4, .int v4)] []) (kx148 : (Nat → Nat → Int32) → Int32 → Option ((Int32) × (Nat → Nat → Int32))) (hkx148 : ∀ (s_self : Nat → Nat → Int32) (v2 : Int32), kx148 s_self v2 = some (r, f_self) → Gd p l e rm_Md_fits s m args below meth c 0 0 (MQ below (sq D classes (tyK K) (some (.int r)) [wd_Md K a_self (a_least 0) f_self] A) args s 0 0 A) D classes A 6 148 [wd_Md K a_self (a_least 0) s_self] [(0, .ref (a_self 0)), (2, .int v2)] []) (h : f_Md_fits_11 N kb kx28 kx55 kx148 s_self v2 v3 = some (r, f_self)) : Gd p l e rm_Md_fits s m args below meth c 0 0 (MQ below (sq D classes (tyK K) (some (.int r)) [wd_Md K a_self (a_least 0) f_self] A) args s 0 0 A) D classes A 6 11 [wd_Md K a_self (a_least 0) s_self] [(0, .ref (a_self 0)), (2, .int v2), (3, .int v3)] [] := by
  unfold f_Md_fits_11 at h
  refine gd_iload_n X d_Md_fits_11 2 rfl ?_
  refine gd_aload_n X d_Md_fits_12 0 rfl ?_
  refine gd_get X (ci := 7) (C := R_Md) (T := F_Md) (N := 36) (v := .int (s_self 0 12)) 0 0 rfl rfl rfl (in_Md _) 12 (by decide) (List.mem_cons_of_mem _ fl_Md_198) rfl rfl d_Md_fits_13 ?_
  refine gd_icmp_ge X (tgt := 148) d_Md_fits_16 (by decide) (fun c_1 => ?_) (fun c_1 => ?_)
  · replace h := it_p c_1 h
    refine gd_loc (lv' := [(0, .ref (a_self 0)), (2, .int v2)]) [0, 1] rfl ?_
    exact hkx148 s_self v2 h
  · replace h := it_n c_1 h
    refine gd_aload_n X d_Md_fits_19 0 rfl ?_
    refine gd_iload_n X d_Md_fits_20 2 rfl ?_
    obtain ⟨s_self_2, es_self_2, h⟩ := nm_e' h
    refine gd_put X (ci := 7) (C := R_Md) (T := F_Md) (N := 36) (ty := .int) (w' := [wd_Md K a_self (a_least 0) s_self_2]) 0 0 rfl rfl rfl (in_Md _) t_Md t_Md_ok n_Md 13 (by decide) (List.mem_cons_of_mem _ fl_Md_28) rfl rfl (by decide +kernel) rfl rfl (Nat.le_of_ble_eq_true rfl) d_Md_fits_21 (by rw [es_self_2]; rfl) ?_
    refine gd_iload_n X d_Md_fits_24 1 rfl ?_
    refine gd_if_ne X (tgt := 30) d_Md_fits_25 (by decide) (fun c_3 => ?_) (fun c_3 => ?_)
    · replace h := it_n c_3 h
      refine gd_aload_n X d_Md_fits_30 0 rfl ?_
      refine gd_aload_n X d_Md_fits_31 0 rfl ?_
      refine gd_get X (ci := 7) (C := R_Md) (T := F_Md) (N := 36) (v := .ref (a_self 6)) 0 0 rfl rfl rfl (in_Md _) 11 (by decide) (List.mem_cons_of_mem _ fl_Md_25) rfl rfl d_Md_fits_32 ?_
      refine gd_iload_n X d_Md_fits_35 2 rfl ?_
      obtain ⟨hi_4, h⟩ := ck_e h
      refine gd_iald X 0 6 0 rfl rfl rfl hi_4 d_Md_fits_36 ?_
      refine gd_aload_n X d_Md_fits_37 0 rfl ?_
      refine gd_get X (ci := 7) (C := R_Md) (T := F_Md) (N := 36) (v := .ref (a_self 19)) 0 0 rfl rfl rfl (in_Md _) 30 (by decide) (List.mem_cons_of_mem _ fl_Md_70) rfl rfl d_Md_fits_38 ?_
      refine gd_iload_n X d_Md_fits_41 1 rfl ?_
      refine gd_iconst X (v := 1) d_Md_fits_42 (by decide) ?_
      refine gd_isub X d_Md_fits_43 ?_
      obtain ⟨hi_5, h⟩ := ck_e h
      refine gd_iald X 0 19 0 rfl rfl rfl hi_5 d_Md_fits_44 ?_
      obtain ⟨r_6, hc_7, h⟩ := bd1_e h
      refine gd_fI X (gd_V X (As := [.int (s_self_2 6 (Int32.toNatClampNeg v3)), .int (s_self_2 19 (Int32.toNatClampNeg (v2 - 1)))]) (rest := []) (c_Md_look l D K a_self a_least s_self_2 (s_self_2 6 (Int32.toNatClampNeg v3)) (s_self_2 19 (Int32.toNatClampNeg (v2 - 1))) r_6 hc_7) 2 (gi_V ml_Md_204 u_Md_look) rfl ⟨rfl, rfl⟩ (by decide +kernel) ⟨by decide, by decide⟩ (ci := 7) rfl rfl rfl rfl rfl rfl (Nat.le_of_ble_eq_true rfl) ⟨Nat.zero_le _, Nat.zero_le _⟩ d_Md_fits_45) ?_
      refine gd_istore X (lv' := [(4, .int r_6), (0, .ref (a_self 0)), (2, .int v2), (3, .int v3)]) d_Md_fits_48 (by decide) rfl ?_
      refine gd_iload X d_Md_fits_50 0 rfl ?_
      refine gd_if_le X (tgt := 58) d_Md_fits_52 (by decide) (fun c_8 => ?_) (fun c_8 => ?_)
      · replace h := it_p c_8 h
        obtain ⟨v2_9, ev2_9, h⟩ := nm_e' h
        refine gd_iinc X (v := v2_9) (lv' := [(2, .int v2_9), (4, .int r_6), (0, .ref (a_self 0)), (3, .int v3)]) d_Md_fits_58 (k := 2) rfl (by rw [ev2_9, show Int32.ofInt (-1) = (-1) from by decide]) (by decide) rfl ?_
        refine gd_aload_n X d_Md_fits_61 2 rfl ?_
        refine gd_get X (ci := 7) (C := R_Md) (T := F_Md) (N := 36) (v := .ref (a_self 6)) 0 0 rfl rfl rfl (in_Md _) 11 (by decide) (List.mem_cons_of_mem _ fl_Md_25) rfl rfl d_Md_fits_62 ?_
        refine gd_iload_n X d_Md_fits_65 3 rfl ?_
        obtain ⟨hi_10, h⟩ := ck_e h
        refine gd_iald X 0 6 0 rfl rfl rfl hi_10 d_Md_fits_66 ?_
        refine gd_if_ge X (tgt := 74) d_Md_fits_67 (by decide) (fun c_11 => ?_) (fun c_11 => ?_)
        · replace h := it_p c_11 h
          refine gd_aload_n X d_Md_fits_74 2 rfl ?_
          refine gd_aload_n X d_Md_fits_75 2 rfl ?_
          refine gd_get X (ci := 7) (C := R_Md) (T := F_Md) (N := 36) (v := .ref (a_self 6)) 0 0 rfl rfl rfl (in_Md _) 11 (by decide) (List.mem_cons_of_mem _ fl_Md_25) rfl rfl d_Md_fits_76 ?_
          refine gd_iload_n X d_Md_fits_79 3 rfl ?_
          obtain ⟨hi_12, h⟩ := ck_e h
          refine gd_iald X 0 6 0 rfl rfl rfl hi_12 d_Md_fits_80 ?_
          obtain ⟨r_13, hc_14, h⟩ := bd1_e h
          refine gd_fI X (gd_V X (As := [.int (s_self_2 6 (Int32.toNatClampNeg v3))]) (rest := []) (c_Md_variablesIn l D K a_self a_least N s_self_2 (s_self_2 6 (Int32.toNatClampNeg v3)) r_13 hc_14) 1 (gi_V ml_Md_112 u_Md_variablesIn) rfl ⟨rfl, rfl⟩ (by decide +kernel) ⟨by decide, by decide⟩ (ci := 7) rfl rfl rfl rfl rfl rfl (Nat.le_of_ble_eq_true rfl) ⟨Nat.zero_le _, Nat.zero_le _⟩ d_Md_fits_81) ?_
          refine gd_iconst X (v := 1) d_Md_fits_84 (by decide) ?_
          refine gd_isub X d_Md_fits_85 ?_
          obtain ⟨v5_15, ev5_15, h⟩ := nm_e' h
          refine gd_topi ev5_15 ?_
          refine gd_istore X (lv' := [(5, .int v5_15), (2, .int v2_9), (4, .int r_6), (0, .ref (a_self 0)), (3, .int v3)]) d_Md_fits_86 (by decide) rfl ?_
          refine gd_loc (lv' := [(0, .ref (a_self 0)), (2, .int v2_9), (3, .int v3), (5, .int v5_15)]) [3, 1, 4, 0] rfl ?_
          exact tl_Md_fits_88 a_self a_least X hr hlk N r f_self v3 (fun s_self v2 => f_Md_fits_142 N kb kx28 kx55 kx148 s_self v2 v3) (fun s_self v2 h => t_Md_fits_142 a_self a_least X hr hlk N r f_self s_self v2 v3 kb hkb kx28 hkx28 kx55 hkx55 kx148 hkx148 h) N s_self_2 v2_9 v5_15 h
        · replace h := it_n c_11 h
          refine gd_iconst X (v := (-1)) d_Md_fits_70 (by decide) ?_
          refine gd_goto X (tgt := 86) d_Md_fits_71 (by decide) ?_
          refine gd_istore X (lv' := [(5, .int (-1)), (2, .int v2_9), (4, .int r_6), (0, .ref (a_self 0)), (3, .int v3)]) d_Md_fits_86 (by decide) rfl ?_
          refine gd_loc (lv' := [(0, .ref (a_self 0)), (2, .int v2_9), (3, .int v3), (5, .int (-1))]) [3, 1, 4, 0] rfl ?_
          exact tl_Md_fits_88 a_self a_least X hr hlk N r f_self v3 (fun s_self v2 => f_Md_fits_142 N kb kx28 kx55 kx148 s_self v2 v3) (fun s_self v2 h => t_Md_fits_142 a_self a_least X hr hlk N r f_self s_self v2 v3 kb hkb kx28 hkx28 kx55 hkx55 kx148 hkx148 h) N s_self_2 v2_9 (-1) h
      · replace h := it_n c_8 h
        refine gd_loc (lv' := [(4, .int r_6)]) [0] rfl ?_
        exact hkx55 s_self_2 r_6 h
    · replace h := it_p c_3 h
      refine gd_loc (lv' := []) [] rfl ?_
      exact hkx28 s_self_2 h
def f_Md_fits_28 (N : Nat) (s_self : Nat → Nat → Int32) : Option ((Int32) × (Nat → Nat → Int32)) :=
  some ((4), s_self)
set_option maxHeartbeats 4000000 in
set_option maxRecDepth 100000 in
theorem t_Md_fits_28 {p : Program} {l : Launch} {e : Env} {s : State} {m : MethodId} {args : Array Value} {below : List Frame} {meth : Method} {c : Code} {A : Nat → Prop} {D : va_G} {K : Nat → ClassId} (a_self a_least : Nat → Nat) (X : gx p s m args c b_Md_fits 6 R_Md w_Md_fits D classes (tyK K) A) (hr : meth.sig.returnType = some .int) (hlk : meth.locks = false) (N : Nat) (r : Int32) (f_self : Nat → Nat → Int32) (s_self : Nat → Nat → Int32) (h : f_Md_fits_28 N s_self = some (r, f_self)) : Gd p l e rm_Md_fits s m args below meth c 0 0 (MQ below (sq D classes (tyK K) (some (.int r)) [wd_Md K a_self (a_least 0) f_self] A) args s 0 0 A) D classes A 6 28 [wd_Md K a_self (a_least 0) s_self] [] [] := by
  unfold f_Md_fits_28 at h
  refine gd_iconst X (v := 4) d_Md_fits_28 (by decide) ?_
  cases h
  exact gd_iret X hr hlk d_Md_fits_29
def f_Md_fits_55 (N : Nat) (s_self : Nat → Nat → Int32) (v4 : Int32) : Option ((Int32) × (Nat → Nat → Int32)) :=
  some ((v4), s_self)
set_option maxHeartbeats 4000000 in
set_option maxRecDepth 100000 in
theorem t_Md_fits_55 {p : Program} {l : Launch} {e : Env} {s : State} {m : MethodId} {args : Array Value} {below : List Frame} {meth : Method} {c : Code} {A : Nat → Prop} {D : va_G} {K : Nat → ClassId} (a_self a_least : Nat → Nat) (X : gx p s m args c b_Md_fits 6 R_Md w_Md_fits D classes (tyK K) A) (hr : meth.sig.returnType = some .int) (hlk : meth.locks = false) (N : Nat) (r : Int32) (f_self : Nat → Nat → Int32) (s_self : Nat → Nat → Int32) (v4 : Int32) (h : f_Md_fits_55 N s_self v4 = some (r, f_self)) : Gd p l e rm_Md_fits s m args below meth c 0 0 (MQ below (sq D classes (tyK K) (some (.int r)) [wd_Md K a_self (a_least 0) f_self] A) args s 0 0 A) D classes A 6 55 [wd_Md K a_self (a_least 0) s_self] [(4, .int v4)] [] := by
  unfold f_Md_fits_55 at h
  refine gd_iload X d_Md_fits_55 0 rfl ?_
  cases h
  exact gd_iret X hr hlk d_Md_fits_57
def f_Md_fits_148 (N : Nat) (s_self : Nat → Nat → Int32) (v2 : Int32) : Option ((Int32) × (Nat → Nat → Int32)) :=
  if v2 ≤ 0 then
    nm (st2 s_self 0 13 (-1)) fun s_self_2 =>
    if v2 ≤ 0 then
      some ((0), s_self_2)
    else
      some ((1), s_self_2)
  else
    nm (st2 s_self 0 13 (s_self 0 12)) fun s_self_4 =>
    if v2 ≤ 0 then
      some ((0), s_self_4)
    else
      some ((1), s_self_4)
set_option maxHeartbeats 4000000 in
set_option maxRecDepth 100000 in
theorem t_Md_fits_148 {p : Program} {l : Launch} {e : Env} {s : State} {m : MethodId} {args : Array Value} {below : List Frame} {meth : Method} {c : Code} {A : Nat → Prop} {D : va_G} {K : Nat → ClassId} (a_self a_least : Nat → Nat) (X : gx p s m args c b_Md_fits 6 R_Md w_Md_fits D classes (tyK K) A) (hr : meth.sig.returnType = some .int) (hlk : meth.locks = false) (N : Nat) (r : Int32) (f_self : Nat → Nat → Int32) (s_self : Nat → Nat → Int32) (v2 : Int32) (h : f_Md_fits_148 N s_self v2 = some (r, f_self)) : Gd p l e rm_Md_fits s m args below meth c 0 0 (MQ below (sq D classes (tyK K) (some (.int r)) [wd_Md K a_self (a_least 0) f_self] A) args s 0 0 A) D classes A 6 148 [wd_Md K a_self (a_least 0) s_self] [(0, .ref (a_self 0)), (2, .int v2)] [] := by
  unfold f_Md_fits_148 at h
  refine gd_aload_n X d_Md_fits_148 0 rfl ?_
  refine gd_iload_n X d_Md_fits_149 1 rfl ?_
  refine gd_if_le X (tgt := 160) d_Md_fits_150 (by decide) (fun c_1 => ?_) (fun c_1 => ?_)
  · replace h := it_p c_1 h
    refine gd_iconst X (v := (-1)) d_Md_fits_160 (by decide) ?_
    obtain ⟨s_self_2, es_self_2, h⟩ := nm_e' h
    refine gd_put X (ci := 7) (C := R_Md) (T := F_Md) (N := 36) (ty := .int) (w' := [wd_Md K a_self (a_least 0) s_self_2]) 0 0 rfl rfl rfl (in_Md _) t_Md t_Md_ok n_Md 13 (by decide) (List.mem_cons_of_mem _ fl_Md_28) rfl rfl (by decide +kernel) rfl rfl (Nat.le_of_ble_eq_true rfl) d_Md_fits_161 (by rw [es_self_2]; rfl) ?_
    refine gd_iload_n X d_Md_fits_164 1 rfl ?_
    refine gd_if_le X (tgt := 172) d_Md_fits_165 (by decide) (fun c_3 => ?_) (fun c_3 => ?_)
    · replace h := it_p c_3 h
      refine gd_iconst X (v := 0) d_Md_fits_172 (by decide) ?_
      cases h
      exact gd_iret X hr hlk d_Md_fits_173
    · replace h := it_n c_3 h
      refine gd_iconst X (v := 1) d_Md_fits_168 (by decide) ?_
      refine gd_goto X (tgt := 173) d_Md_fits_169 (by decide) ?_
      cases h
      exact gd_iret X hr hlk d_Md_fits_173
  · replace h := it_n c_1 h
    refine gd_aload_n X d_Md_fits_153 0 rfl ?_
    refine gd_get X (ci := 7) (C := R_Md) (T := F_Md) (N := 36) (v := .int (s_self 0 12)) 0 0 rfl rfl rfl (in_Md _) 12 (by decide) (List.mem_cons_of_mem _ fl_Md_198) rfl rfl d_Md_fits_154 ?_
    refine gd_goto X (tgt := 161) d_Md_fits_157 (by decide) ?_
    obtain ⟨s_self_4, es_self_4, h⟩ := nm_e' h
    refine gd_put X (ci := 7) (C := R_Md) (T := F_Md) (N := 36) (ty := .int) (w' := [wd_Md K a_self (a_least 0) s_self_4]) 0 0 rfl rfl rfl (in_Md _) t_Md t_Md_ok n_Md 13 (by decide) (List.mem_cons_of_mem _ fl_Md_28) rfl rfl (by decide +kernel) rfl rfl (Nat.le_of_ble_eq_true rfl) d_Md_fits_161 (by rw [es_self_4]; rfl) ?_
    refine gd_iload_n X d_Md_fits_164 1 rfl ?_
    refine gd_if_le X (tgt := 172) d_Md_fits_165 (by decide) (fun c_5 => ?_) (fun c_5 => ?_)
    · replace h := it_p c_5 h
      refine gd_iconst X (v := 0) d_Md_fits_172 (by decide) ?_
      cases h
      exact gd_iret X hr hlk d_Md_fits_173
    · replace h := it_n c_5 h
      refine gd_iconst X (v := 1) d_Md_fits_168 (by decide) ?_
      refine gd_goto X (tgt := 173) d_Md_fits_169 (by decide) ?_
      cases h
      exact gd_iret X hr hlk d_Md_fits_173
def l_Md_fits_11 (N : Nat) (kx28 : (Nat → Nat → Int32) → Option ((Int32) × (Nat → Nat → Int32))) (kx55 : (Nat → Nat → Int32) → Int32 → Option ((Int32) × (Nat → Nat → Int32))) (kx148 : (Nat → Nat → Int32) → Int32 → Option ((Int32) × (Nat → Nat → Int32))) : Nat → (Nat → Nat → Int32) → Int32 → Int32 → Option ((Int32) × (Nat → Nat → Int32))
  | 0, _, _, _ => none
  | n + 1, s_self, v2, v3 => f_Md_fits_11 N (l_Md_fits_11 N kx28 kx55 kx148 n) kx28 kx55 kx148 s_self v2 v3
set_option maxHeartbeats 4000000 in
set_option maxRecDepth 100000 in
theorem tl_Md_fits_11 {p : Program} {l : Launch} {e : Env} {s : State} {m : MethodId} {args : Array Value} {below : List Frame} {meth : Method} {c : Code} {A : Nat → Prop} {D : va_G} {K : Nat → ClassId} (a_self a_least : Nat → Nat) (X : gx p s m args c b_Md_fits 6 R_Md w_Md_fits D classes (tyK K) A) (hr : meth.sig.returnType = some .int) (hlk : meth.locks = false) (N : Nat) (r : Int32) (f_self : Nat → Nat → Int32) (kx28 : (Nat → Nat → Int32) → Option ((Int32) × (Nat → Nat → Int32))) (hkx28 : ∀ (s_self : Nat → Nat → Int32), kx28 s_self = some (r, f_self) → Gd p l e rm_Md_fits s m args below meth c 0 0 (MQ below (sq D classes (tyK K) (some (.int r)) [wd_Md K a_self (a_least 0) f_self] A) args s 0 0 A) D classes A 6 28 [wd_Md K a_self (a_least 0) s_self] [] []) (kx55 : (Nat → Nat → Int32) → Int32 → Option ((Int32) × (Nat → Nat → Int32))) (hkx55 : ∀ (s_self : Nat → Nat → Int32) (v4 : Int32), kx55 s_self v4 = some (r, f_self) → Gd p l e rm_Md_fits s m args below meth c 0 0 (MQ below (sq D classes (tyK K) (some (.int r)) [wd_Md K a_self (a_least 0) f_self] A) args s 0 0 A) D classes A 6 55 [wd_Md K a_self (a_least 0) s_self] [(4, .int v4)] []) (kx148 : (Nat → Nat → Int32) → Int32 → Option ((Int32) × (Nat → Nat → Int32))) (hkx148 : ∀ (s_self : Nat → Nat → Int32) (v2 : Int32), kx148 s_self v2 = some (r, f_self) → Gd p l e rm_Md_fits s m args below meth c 0 0 (MQ below (sq D classes (tyK K) (some (.int r)) [wd_Md K a_self (a_least 0) f_self] A) args s 0 0 A) D classes A 6 148 [wd_Md K a_self (a_least 0) s_self] [(0, .ref (a_self 0)), (2, .int v2)] []) : ∀ (n : Nat) (s_self : Nat → Nat → Int32) (v2 v3 : Int32), l_Md_fits_11 N kx28 kx55 kx148 n s_self v2 v3 = some (r, f_self) → Gd p l e rm_Md_fits s m args below meth c 0 0 (MQ below (sq D classes (tyK K) (some (.int r)) [wd_Md K a_self (a_least 0) f_self] A) args s 0 0 A) D classes A 6 11 [wd_Md K a_self (a_least 0) s_self] [(0, .ref (a_self 0)), (2, .int v2), (3, .int v3)] [] := by
  intro n
  induction n with
  | zero => intro s_self v2 v3 h; have h : (none : Option ((Int32) × (Nat → Nat → Int32))) = some _ := h; cases h
  | succ n ih =>
    intro s_self v2 v3 h
    exact t_Md_fits_11 a_self a_least X hr hlk N r f_self s_self v2 v3 (l_Md_fits_11 N kx28 kx55 kx148 n) ih kx28 hkx28 kx55 hkx55 kx148 hkx148 h
def f_Md_fits_0 (N : Nat) (s_self : Nat → Nat → Int32) (v1 : Int32) : Option ((Int32) × (Nat → Nat → Int32)) :=
  ck 0 1000 <| nm (st2 s_self 19 (Int32.toNatClampNeg 0) v1) fun s_self_2 =>
  l_Md_fits_11 N (fun s_self => f_Md_fits_28 N s_self) (fun s_self v4 => f_Md_fits_55 N s_self v4) (fun s_self v2 => f_Md_fits_148 N s_self v2) N s_self_2 1 0
set_option maxHeartbeats 4000000 in
set_option maxRecDepth 100000 in
theorem t_Md_fits_0 {p : Program} {l : Launch} {e : Env} {s : State} {m : MethodId} {args : Array Value} {below : List Frame} {meth : Method} {c : Code} {A : Nat → Prop} {D : va_G} {K : Nat → ClassId} (a_self a_least : Nat → Nat) (X : gx p s m args c b_Md_fits 6 R_Md w_Md_fits D classes (tyK K) A) (hr : meth.sig.returnType = some .int) (hlk : meth.locks = false) (N : Nat) (r : Int32) (f_self : Nat → Nat → Int32) (s_self : Nat → Nat → Int32) (v1 : Int32) (h : f_Md_fits_0 N s_self v1 = some (r, f_self)) : Gd p l e rm_Md_fits s m args below meth c 0 0 (MQ below (sq D classes (tyK K) (some (.int r)) [wd_Md K a_self (a_least 0) f_self] A) args s 0 0 A) D classes A 6 0 [wd_Md K a_self (a_least 0) s_self] [(0, .ref (a_self 0)), (1, .int v1)] [] := by
  unfold f_Md_fits_0 at h
  refine gd_iconst X (v := 1) d_Md_fits_0 (by decide) ?_
  refine gd_istore_n X (lv' := [(2, .int 1), (0, .ref (a_self 0)), (1, .int v1)]) d_Md_fits_1 rfl (by decide) rfl ?_
  refine gd_aload_n X d_Md_fits_2 1 rfl ?_
  refine gd_get X (ci := 7) (C := R_Md) (T := F_Md) (N := 36) (v := .ref (a_self 19)) 0 0 rfl rfl rfl (in_Md _) 30 (by decide) (List.mem_cons_of_mem _ fl_Md_70) rfl rfl d_Md_fits_3 ?_
  refine gd_iconst X (v := 0) d_Md_fits_6 (by decide) ?_
  refine gd_iload_n X d_Md_fits_7 2 rfl ?_
  obtain ⟨hi_1, h⟩ := ck_e h
  obtain ⟨s_self_2, es_self_2, h⟩ := nm_e' h
  refine gd_iast X (w' := [wd_Md K a_self (a_least 0) s_self_2]) 0 19 0 rfl rfl rfl hi_1 d_Md_fits_8 (by rw [es_self_2]; rfl) ?_
  refine gd_iconst X (v := 0) d_Md_fits_9 (by decide) ?_
  refine gd_istore_n X (lv' := [(3, .int 0), (2, .int 1), (0, .ref (a_self 0)), (1, .int v1)]) d_Md_fits_10 rfl (by decide) rfl ?_
  refine gd_loc (lv' := [(0, .ref (a_self 0)), (2, .int 1), (3, .int 0)]) [2, 1, 0] rfl ?_
  exact tl_Md_fits_11 a_self a_least X hr hlk N r f_self (fun s_self => f_Md_fits_28 N s_self) (fun s_self h => t_Md_fits_28 a_self a_least X hr hlk N r f_self s_self h) (fun s_self v4 => f_Md_fits_55 N s_self v4) (fun s_self v4 h => t_Md_fits_55 a_self a_least X hr hlk N r f_self s_self v4 h) (fun s_self v2 => f_Md_fits_148 N s_self v2) (fun s_self v2 h => t_Md_fits_148 a_self a_least X hr hlk N r f_self s_self v2 h) N s_self_2 1 0 h
def m_Md_fits (N : Nat) (s_self : Nat → Nat → Int32) (v1 : Int32) : Option ((Int32) × (Nat → Nat → Int32)) := f_Md_fits_0 N s_self v1
set_option maxHeartbeats 4000000 in
set_option maxRecDepth 100000 in
theorem c_Md_fits (l : Launch) (D : va_G) (K : Nat → ClassId) (a_self a_least : Nat → Nat) (N : Nat) (s_self : Nat → Nat → Int32) (v1 : Int32) (r : Int32) (f_self : Nat → Nat → Int32) (h : m_Md_fits N s_self v1 = some (r, f_self)) : SMet l y_Md_fits w_Md_fits rm_Md_fits D classes (tyK K) [.ref (a_self 0), .int v1] (some (.int r)) [wd_Md K a_self (a_least 0) s_self] [wd_Md K a_self (a_least 0) f_self] := by
  refine sm_of R_Md (by decide) rfl rfl (Nat.le_of_ble_eq_true rfl) ?_
  intro p e s m below meth c A X hr hlk
  refine gd_loc (lv' := [(0, .ref (a_self 0)), (1, .int v1)]) [0, 1] rfl ?_
  exact t_Md_fits_0 a_self a_least X hr hlk N r f_self s_self v1 h
