abbrev b_Ch_addUnitWays : ByteArray := prog_2_method_19_code
def y_Ch_addUnitWays : MethodName := ⟨R_Ch, "addUnitWays", "(II)V"⟩
def w_Ch_addUnitWays : List Cond := .code y_Ch_addUnitWays b_Ch_addUnitWays 8 none :: TB
theorem k_Ch_addUnitWays : Cond.code y_Ch_addUnitWays b_Ch_addUnitWays 8 none ∈ TB := tb_of 531 (by decide +kernel) (by decide +kernel)
theorem d_Ch_addUnitWays_0 : decode b_Ch_addUnitWays 0 = .ok (.iconst 0, 1) := by decide +kernel
theorem d_Ch_addUnitWays_1 : decode b_Ch_addUnitWays 1 = .ok (.istore_n 3, 1) := by decide +kernel
theorem d_Ch_addUnitWays_2 : decode b_Ch_addUnitWays 2 = .ok (.iload_n 3, 1) := by decide +kernel
theorem d_Ch_addUnitWays_3 : decode b_Ch_addUnitWays 3 = .ok (.bipush 6, 2) := by decide +kernel
theorem d_Ch_addUnitWays_5 : decode b_Ch_addUnitWays 5 = .ok (.if_icmp .ge 22, 3) := by decide +kernel
theorem d_Ch_addUnitWays_8 : decode b_Ch_addUnitWays 8 = .ok (.aload_n 0, 1) := by decide +kernel
theorem d_Ch_addUnitWays_9 : decode b_Ch_addUnitWays 9 = .ok (.getfield 41, 3) := by decide +kernel
theorem d_Ch_addUnitWays_12 : decode b_Ch_addUnitWays 12 = .ok (.iload_n 3, 1) := by decide +kernel
theorem d_Ch_addUnitWays_13 : decode b_Ch_addUnitWays 13 = .ok (.aload_n 0, 1) := by decide +kernel
theorem d_Ch_addUnitWays_14 : decode b_Ch_addUnitWays 14 = .ok (.iload_n 3, 1) := by decide +kernel
theorem d_Ch_addUnitWays_15 : decode b_Ch_addUnitWays 15 = .ok (.iload_n 1, 1) := by decide +kernel
theorem d_Ch_addUnitWays_16 : decode b_Ch_addUnitWays 16 = .ok (.iload_n 2, 1) := by decide +kernel
theorem d_Ch_addUnitWays_17 : decode b_Ch_addUnitWays 17 = .ok (.invokevirtual 159, 3) := by decide +kernel
theorem d_Ch_addUnitWays_20 : decode b_Ch_addUnitWays 20 = .ok (.iastore, 1) := by decide +kernel
theorem d_Ch_addUnitWays_21 : decode b_Ch_addUnitWays 21 = .ok (.iinc 3 1, 3) := by decide +kernel
theorem d_Ch_addUnitWays_24 : decode b_Ch_addUnitWays 24 = .ok (.goto (-22), 3) := by decide +kernel
theorem d_Ch_addUnitWays_27 : decode b_Ch_addUnitWays 27 = .ok (.iconst 0, 1) := by decide +kernel
theorem d_Ch_addUnitWays_28 : decode b_Ch_addUnitWays 28 = .ok (.istore_n 3, 1) := by decide +kernel
theorem d_Ch_addUnitWays_29 : decode b_Ch_addUnitWays 29 = .ok (.iload_n 3, 1) := by decide +kernel
theorem d_Ch_addUnitWays_30 : decode b_Ch_addUnitWays 30 = .ok (.bipush 6, 2) := by decide +kernel
theorem d_Ch_addUnitWays_32 : decode b_Ch_addUnitWays 32 = .ok (.if_icmp .ge 111, 3) := by decide +kernel
theorem d_Ch_addUnitWays_35 : decode b_Ch_addUnitWays 35 = .ok (.iconst 0, 1) := by decide +kernel
theorem d_Ch_addUnitWays_36 : decode b_Ch_addUnitWays 36 = .ok (.istore 4, 2) := by decide +kernel
theorem d_Ch_addUnitWays_38 : decode b_Ch_addUnitWays 38 = .ok (.iload 4, 2) := by decide +kernel
theorem d_Ch_addUnitWays_40 : decode b_Ch_addUnitWays 40 = .ok (.bipush 6, 2) := by decide +kernel
theorem d_Ch_addUnitWays_42 : decode b_Ch_addUnitWays 42 = .ok (.if_icmp .ge 95, 3) := by decide +kernel
theorem d_Ch_addUnitWays_45 : decode b_Ch_addUnitWays 45 = .ok (.aload_n 0, 1) := by decide +kernel
theorem d_Ch_addUnitWays_46 : decode b_Ch_addUnitWays 46 = .ok (.getfield 41, 3) := by decide +kernel
theorem d_Ch_addUnitWays_49 : decode b_Ch_addUnitWays 49 = .ok (.iload 4, 2) := by decide +kernel
theorem d_Ch_addUnitWays_51 : decode b_Ch_addUnitWays 51 = .ok (.iaload, 1) := by decide +kernel
theorem d_Ch_addUnitWays_52 : decode b_Ch_addUnitWays 52 = .ok (.istore 5, 2) := by decide +kernel
theorem d_Ch_addUnitWays_54 : decode b_Ch_addUnitWays 54 = .ok (.iconst 0, 1) := by decide +kernel
theorem d_Ch_addUnitWays_55 : decode b_Ch_addUnitWays 55 = .ok (.istore 6, 2) := by decide +kernel
theorem d_Ch_addUnitWays_57 : decode b_Ch_addUnitWays 57 = .ok (.iload 6, 2) := by decide +kernel
theorem d_Ch_addUnitWays_59 : decode b_Ch_addUnitWays 59 = .ok (.aload_n 0, 1) := by decide +kernel
theorem d_Ch_addUnitWays_60 : decode b_Ch_addUnitWays 60 = .ok (.getfield 94, 3) := by decide +kernel
theorem d_Ch_addUnitWays_63 : decode b_Ch_addUnitWays 63 = .ok (.if_icmp .ge 55, 3) := by decide +kernel
theorem d_Ch_addUnitWays_66 : decode b_Ch_addUnitWays 66 = .ok (.aload_n 0, 1) := by decide +kernel
theorem d_Ch_addUnitWays_67 : decode b_Ch_addUnitWays 67 = .ok (.getfield 29, 3) := by decide +kernel
theorem d_Ch_addUnitWays_70 : decode b_Ch_addUnitWays 70 = .ok (.iload 6, 2) := by decide +kernel
theorem d_Ch_addUnitWays_72 : decode b_Ch_addUnitWays 72 = .ok (.iaload, 1) := by decide +kernel
theorem d_Ch_addUnitWays_73 : decode b_Ch_addUnitWays 73 = .ok (.istore 7, 2) := by decide +kernel
theorem d_Ch_addUnitWays_75 : decode b_Ch_addUnitWays 75 = .ok (.aload_n 0, 1) := by decide +kernel
theorem d_Ch_addUnitWays_76 : decode b_Ch_addUnitWays 76 = .ok (.getfield 9, 3) := by decide +kernel
theorem d_Ch_addUnitWays_79 : decode b_Ch_addUnitWays 79 = .ok (.iload 7, 2) := by decide +kernel
theorem d_Ch_addUnitWays_81 : decode b_Ch_addUnitWays 81 = .ok (.invokevirtual 97, 3) := by decide +kernel
theorem d_Ch_addUnitWays_84 : decode b_Ch_addUnitWays 84 = .ok (.iload 4, 2) := by decide +kernel
theorem d_Ch_addUnitWays_86 : decode b_Ch_addUnitWays 86 = .ok (.if_icmp .ne 26, 3) := by decide +kernel
theorem d_Ch_addUnitWays_89 : decode b_Ch_addUnitWays 89 = .ok (.iload 5, 2) := by decide +kernel
theorem d_Ch_addUnitWays_91 : decode b_Ch_addUnitWays 91 = .ok (.aload_n 0, 1) := by decide +kernel
theorem d_Ch_addUnitWays_92 : decode b_Ch_addUnitWays 92 = .ok (.aload_n 0, 1) := by decide +kernel
theorem d_Ch_addUnitWays_93 : decode b_Ch_addUnitWays 93 = .ok (.getfield 9, 3) := by decide +kernel
theorem d_Ch_addUnitWays_96 : decode b_Ch_addUnitWays 96 = .ok (.iload 7, 2) := by decide +kernel
theorem d_Ch_addUnitWays_98 : decode b_Ch_addUnitWays 98 = .ok (.iconst 0, 1) := by decide +kernel
theorem d_Ch_addUnitWays_99 : decode b_Ch_addUnitWays 99 = .ok (.invokevirtual 100, 3) := by decide +kernel
theorem d_Ch_addUnitWays_102 : decode b_Ch_addUnitWays 102 = .ok (.iload_n 1, 1) := by decide +kernel
theorem d_Ch_addUnitWays_103 : decode b_Ch_addUnitWays 103 = .ok (.iload_n 2, 1) := by decide +kernel
theorem d_Ch_addUnitWays_104 : decode b_Ch_addUnitWays 104 = .ok (.invokevirtual 159, 3) := by decide +kernel
theorem d_Ch_addUnitWays_107 : decode b_Ch_addUnitWays 107 = .ok (.invokestatic 176, 3) := by decide +kernel
theorem d_Ch_addUnitWays_110 : decode b_Ch_addUnitWays 110 = .ok (.istore 5, 2) := by decide +kernel
theorem d_Ch_addUnitWays_112 : decode b_Ch_addUnitWays 112 = .ok (.iinc 6 1, 3) := by decide +kernel
theorem d_Ch_addUnitWays_115 : decode b_Ch_addUnitWays 115 = .ok (.goto (-58), 3) := by decide +kernel
theorem d_Ch_addUnitWays_118 : decode b_Ch_addUnitWays 118 = .ok (.aload_n 0, 1) := by decide +kernel
theorem d_Ch_addUnitWays_119 : decode b_Ch_addUnitWays 119 = .ok (.iload 4, 2) := by decide +kernel
theorem d_Ch_addUnitWays_121 : decode b_Ch_addUnitWays 121 = .ok (.iload_n 1, 1) := by decide +kernel
theorem d_Ch_addUnitWays_122 : decode b_Ch_addUnitWays 122 = .ok (.iload_n 2, 1) := by decide +kernel
theorem d_Ch_addUnitWays_123 : decode b_Ch_addUnitWays 123 = .ok (.invokestatic 44, 3) := by decide +kernel
theorem d_Ch_addUnitWays_126 : decode b_Ch_addUnitWays 126 = .ok (.iload 5, 2) := by decide +kernel
theorem d_Ch_addUnitWays_128 : decode b_Ch_addUnitWays 128 = .ok (.invokevirtual 110, 3) := by decide +kernel
theorem d_Ch_addUnitWays_131 : decode b_Ch_addUnitWays 131 = .ok (.iinc 4 1, 3) := by decide +kernel
theorem d_Ch_addUnitWays_134 : decode b_Ch_addUnitWays 134 = .ok (.goto (-96), 3) := by decide +kernel
theorem d_Ch_addUnitWays_137 : decode b_Ch_addUnitWays 137 = .ok (.iinc 3 1, 3) := by decide +kernel
theorem d_Ch_addUnitWays_140 : decode b_Ch_addUnitWays 140 = .ok (.goto (-111), 3) := by decide +kernel
theorem d_Ch_addUnitWays_143 : decode b_Ch_addUnitWays 143 = .ok (.return_, 1) := by decide +kernel
theorem fl_Ch_41 : Cond.fieldLink R_Ch 41 "RuleTrees$Chart" "ownWays" "[I" ∈ TB := tb_of 171 (by decide +kernel) (by decide +kernel)
theorem ml_Ch_159 : Cond.methodLink R_Ch 159 ⟨"RuleTrees$Chart", "waysOf", "(III)I"⟩ ∈ TB := tb_of 524 (by decide +kernel) (by decide +kernel)
theorem u_Ch_waysOf : (Cond.instanceMethod y_Ch_waysOf ∈ TB ∧ Cond.selects R_Ch y_Ch_waysOf y_Ch_waysOf ∈ TB) ∧ Cond.initialized R_Ch ∈ TB ∧ Cond.code y_Ch_waysOf b_Ch_waysOf 4 (some .int) ∈ TB := ⟨⟨(tb_of 525 (by decide +kernel) (by decide +kernel)), (tb_of 526 (by decide +kernel) (by decide +kernel))⟩, (tb_of 64 (by decide +kernel) (by decide +kernel)), k_Ch_waysOf⟩
theorem ml_Ch_176 : Cond.methodLink R_Ch 176 ⟨"RuleTrees$Ways", "plus", "(II)I"⟩ ∈ TB := tb_of 506 (by decide +kernel) (by decide +kernel)
theorem u_Wy_plus : Cond.static y_Wy_plus ∈ TB ∧ Cond.initialized y_Wy_plus.cls ∈ TB ∧ Cond.code y_Wy_plus b_Wy_plus 2 (some .int) ∈ TB := ⟨(tb_of 507 (by decide +kernel) (by decide +kernel)), (tb_of 71 (by decide +kernel) (by decide +kernel)), k_Wy_plus⟩
abbrev rm_Ch_addUnitWays : Room := { frames := 2, cells := 0, slots := 0, locals := 45 }
def f_Ch_addUnitWays_2 (N : Nat) (kb : (Nat → Nat → Int32) → Int32 → Option ((Nat → Nat → Int32))) (kx27 : (Nat → Nat → Int32) → Option ((Nat → Nat → Int32))) (s_self s_grammar : Nat → Nat → Int32) (v1 v2 v3 : Int32) : Option ((Nat → Nat → Int32)) :=
  if 6 ≤ v3 then
    kx27 s_self
  else
    bd1 (m_Ch_waysOf s_self v3 v1 v2) fun r_2 =>
    ck v3 6 <| nm (st2 s_self 7 (Int32.toNatClampNeg v3) r_2) fun s_self_5 =>
    nm (v3 + 1) fun v3_6 =>
    kb s_self_5 v3_6
set_option maxHeartbeats 4000000 in
set_option maxRecDepth 100000 in
theorem t_Ch_addUnitWays_2 {p : Program} {l : Launch} {e : Env} {s : State} {m : MethodId} {args : Array Value} {below : List Frame} {meth : Method} {c : Code} {A : Nat → Prop} {D : va_G} {K : Nat → ClassId} (a_self a_grammar a_table : Nat → Nat) (X : gx p s m args c b_Ch_addUnitWays 8 R_Ch w_Ch_addUnitWays D classes (tyK K) A) (hr : meth.sig.returnType = none) (hlk : meth.locks = false) (N : Nat) (f_self : Nat → Nat → Int32) (s_self s_grammar : Nat → Nat → Int32) (v1 v2 v3 : Int32) (kb : (Nat → Nat → Int32) → Int32 → Option ((Nat → Nat → Int32))) (hkb : ∀ (s_self : Nat → Nat → Int32) (v3 : Int32), kb s_self v3 = some f_self → Gd p l e rm_Ch_addUnitWays s m args below meth c 0 0 (MQ below (sq D classes (tyK K) none [wd_Ch K a_self (a_grammar 0) (a_table 0) f_self, wd_Gr K a_grammar s_grammar] A) args s 0 0 A) D classes A 8 2 [wd_Ch K a_self (a_grammar 0) (a_table 0) s_self, wd_Gr K a_grammar s_grammar] [(0, .ref (a_self 0)), (1, .int v1), (2, .int v2), (3, .int v3)] []) (kx27 : (Nat → Nat → Int32) → Option ((Nat → Nat → Int32))) (hkx27 : ∀ (s_self : Nat → Nat → Int32), kx27 s_self = some f_self → Gd p l e rm_Ch_addUnitWays s m args below meth c 0 0 (MQ below (sq D classes (tyK K) none [wd_Ch K a_self (a_grammar 0) (a_table 0) f_self, wd_Gr K a_grammar s_grammar] A) args s 0 0 A) D classes A 8 27 [wd_Ch K a_self (a_grammar 0) (a_table 0) s_self, wd_Gr K a_grammar s_grammar] [(0, .ref (a_self 0)), (1, .int v1), (2, .int v2)] []) (h : f_Ch_addUnitWays_2 N kb kx27 s_self s_grammar v1 v2 v3 = some f_self) : Gd p l e rm_Ch_addUnitWays s m args below meth c 0 0 (MQ below (sq D classes (tyK K) none [wd_Ch K a_self (a_grammar 0) (a_table 0) f_self, wd_Gr K a_grammar s_grammar] A) args s 0 0 A) D classes A 8 2 [wd_Ch K a_self (a_grammar 0) (a_table 0) s_self, wd_Gr K a_grammar s_grammar] [(0, .ref (a_self 0)), (1, .int v1), (2, .int v2), (3, .int v3)] [] := by
  unfold f_Ch_addUnitWays_2 at h
  refine gd_iload_n X d_Ch_addUnitWays_2 3 rfl ?_
  refine gd_bipush X (v := 6) d_Ch_addUnitWays_3 (by decide) ?_
  refine gd_icmp_ge X (tgt := 27) d_Ch_addUnitWays_5 (by decide) (fun c_1 => ?_) (fun c_1 => ?_)
  · replace h := it_p c_1 h
    refine gd_loc (lv' := [(0, .ref (a_self 0)), (1, .int v1), (2, .int v2)]) [0, 1, 2] rfl ?_
    exact hkx27 s_self h
  · replace h := it_n c_1 h
    refine gd_aload_n X d_Ch_addUnitWays_8 0 rfl ?_
    refine gd_get X (ci := 3) (C := R_Ch) (T := F_Ch) (N := 12) (v := .ref (a_self 7)) 0 0 rfl rfl rfl (in_Ch _) 11 (by decide) (List.mem_cons_of_mem _ fl_Ch_41) rfl rfl d_Ch_addUnitWays_9 ?_
    refine gd_iload_n X d_Ch_addUnitWays_12 3 rfl ?_
    refine gd_aload_n X d_Ch_addUnitWays_13 0 rfl ?_
    refine gd_iload_n X d_Ch_addUnitWays_14 3 rfl ?_
    refine gd_iload_n X d_Ch_addUnitWays_15 1 rfl ?_
    refine gd_iload_n X d_Ch_addUnitWays_16 2 rfl ?_
    obtain ⟨r_2, hc_3, h⟩ := bd1_e h
    refine gd_pI X (gd_V X (As := [.int v3, .int v1, .int v2]) (rest := [.int v3, .ref (a_self 7)]) (c_Ch_waysOf l D K a_self a_grammar a_table s_self v3 v1 v2 r_2 hc_3) 3 (gi_V ml_Ch_159 u_Ch_waysOf) rfl ⟨rfl, rfl⟩ (by decide +kernel) ⟨by decide, by decide⟩ (ci := 3) rfl rfl rfl rfl rfl rfl (Nat.le_of_ble_eq_true rfl) ⟨Nat.zero_le _, Nat.zero_le _⟩ d_Ch_addUnitWays_17) [0] rfl rfl ?_
    obtain ⟨hi_4, h⟩ := ck_e h
    obtain ⟨s_self_5, es_self_5, h⟩ := nm_e' h
    refine gd_iast X (w' := [wd_Ch K a_self (a_grammar 0) (a_table 0) s_self_5, wd_Gr K a_grammar s_grammar]) 0 7 0 rfl rfl rfl hi_4 d_Ch_addUnitWays_20 (by rw [es_self_5]; rfl) ?_
    obtain ⟨v3_6, ev3_6, h⟩ := nm_e' h
    refine gd_iinc X (v := v3_6) (lv' := [(3, .int v3_6), (0, .ref (a_self 0)), (1, .int v1), (2, .int v2)]) d_Ch_addUnitWays_21 (k := 3) rfl (by rw [ev3_6]; rfl) (by decide) rfl ?_
    refine gd_goto X (tgt := 2) d_Ch_addUnitWays_24 (by decide) ?_
    refine gd_loc (lv' := [(0, .ref (a_self 0)), (1, .int v1), (2, .int v2), (3, .int v3_6)]) [1, 2, 3, 0] rfl ?_
    exact hkb s_self_5 v3_6 h
def f_Ch_addUnitWays_57 (N : Nat) (kb : Int32 → Int32 → Option ((Nat → Nat → Int32))) (kx118 : Int32 → Option ((Nat → Nat → Int32))) (s_self s_grammar : Nat → Nat → Int32) (v1 v2 v3 v4 v5 v6 : Int32) : Option ((Nat → Nat → Int32)) :=
  if (s_self 0 7) ≤ v6 then
    kx118 v5
  else
    ck v6 30 <|
    nm (s_self 3 (Int32.toNatClampNeg v6)) fun v7_3 =>
    bd1 (m_Gr_sortOfCode s_grammar v7_3) fun r_4 =>
    if r_4 = v4 then
      bd1 (m_Gr_sortOfSlot s_grammar v7_3 0) fun r_8 =>
      bd1 (m_Ch_waysOf s_self r_8 v1 v2) fun r_10 =>
      bd1 (m_Wy_plus v5 r_10) fun r_12 =>
      nm (v6 + 1) fun v6_14 =>
      kb r_12 v6_14
    else
      nm (v6 + 1) fun v6_7 =>
      kb v5 v6_7
set_option maxHeartbeats 4000000 in
set_option maxRecDepth 100000 in
theorem t_Ch_addUnitWays_57 {p : Program} {l : Launch} {e : Env} {s : State} {m : MethodId} {args : Array Value} {below : List Frame} {meth : Method} {c : Code} {A : Nat → Prop} {D : va_G} {K : Nat → ClassId} (a_self a_grammar a_table : Nat → Nat) (X : gx p s m args c b_Ch_addUnitWays 8 R_Ch w_Ch_addUnitWays D classes (tyK K) A) (hr : meth.sig.returnType = none) (hlk : meth.locks = false) (N : Nat) (f_self : Nat → Nat → Int32) (s_self s_grammar : Nat → Nat → Int32) (v1 v2 v3 v4 v5 v6 : Int32) (kb : Int32 → Int32 → Option ((Nat → Nat → Int32))) (hkb : ∀ (v5 v6 : Int32), kb v5 v6 = some f_self → Gd p l e rm_Ch_addUnitWays s m args below meth c 0 0 (MQ below (sq D classes (tyK K) none [wd_Ch K a_self (a_grammar 0) (a_table 0) f_self, wd_Gr K a_grammar s_grammar] A) args s 0 0 A) D classes A 8 57 [wd_Ch K a_self (a_grammar 0) (a_table 0) s_self, wd_Gr K a_grammar s_grammar] [(0, .ref (a_self 0)), (1, .int v1), (2, .int v2), (3, .int v3), (4, .int v4), (5, .int v5), (6, .int v6)] []) (kx118 : Int32 → Option ((Nat → Nat → Int32))) (hkx118 : ∀ (v5 : Int32), kx118 v5 = some f_self → Gd p l e rm_Ch_addUnitWays s m args below meth c 0 0 (MQ below (sq D classes (tyK K) none [wd_Ch K a_self (a_grammar 0) (a_table 0) f_self, wd_Gr K a_grammar s_grammar] A) args s 0 0 A) D classes A 8 118 [wd_Ch K a_self (a_grammar 0) (a_table 0) s_self, wd_Gr K a_grammar s_grammar] [(0, .ref (a_self 0)), (1, .int v1), (2, .int v2), (3, .int v3), (4, .int v4), (5, .int v5)] []) (h : f_Ch_addUnitWays_57 N kb kx118 s_self s_grammar v1 v2 v3 v4 v5 v6 = some f_self) : Gd p l e rm_Ch_addUnitWays s m args below meth c 0 0 (MQ below (sq D classes (tyK K) none [wd_Ch K a_self (a_grammar 0) (a_table 0) f_self, wd_Gr K a_grammar s_grammar] A) args s 0 0 A) D classes A 8 57 [wd_Ch K a_self (a_grammar 0) (a_table 0) s_self, wd_Gr K a_grammar s_grammar] [(0, .ref (a_self 0)), (1, .int v1), (2, .int v2), (3, .int v3), (4, .int v4), (5, .int v5), (6, .int v6)] [] := by
  unfold f_Ch_addUnitWays_57 at h
  refine gd_iload X d_Ch_addUnitWays_57 6 rfl ?_
  refine gd_aload_n X d_Ch_addUnitWays_59 0 rfl ?_
  refine gd_get X (ci := 3) (C := R_Ch) (T := F_Ch) (N := 12) (v := .int (s_self 0 7)) 0 0 rfl rfl rfl (in_Ch _) 7 (by decide) (List.mem_cons_of_mem _ fl_Ch_94) rfl rfl d_Ch_addUnitWays_60 ?_
  refine gd_icmp_ge X (tgt := 118) d_Ch_addUnitWays_63 (by decide) (fun c_1 => ?_) (fun c_1 => ?_)
  · replace h := it_p c_1 h
    refine gd_loc (lv' := [(0, .ref (a_self 0)), (1, .int v1), (2, .int v2), (3, .int v3), (4, .int v4), (5, .int v5)]) [0, 1, 2, 3, 4, 5] rfl ?_
    exact hkx118 v5 h
  · replace h := it_n c_1 h
    refine gd_aload_n X d_Ch_addUnitWays_66 0 rfl ?_
    refine gd_get X (ci := 3) (C := R_Ch) (T := F_Ch) (N := 12) (v := .ref (a_self 3)) 0 0 rfl rfl rfl (in_Ch _) 6 (by decide) (List.mem_cons_of_mem _ fl_Ch_29) rfl rfl d_Ch_addUnitWays_67 ?_
    refine gd_iload X d_Ch_addUnitWays_70 6 rfl ?_
    obtain ⟨hi_2, h⟩ := ck_e h
    refine gd_iald X 0 3 0 rfl rfl rfl hi_2 d_Ch_addUnitWays_72 ?_
    obtain ⟨v7_3, ev7_3, h⟩ := nm_e' h
    refine gd_topi ev7_3 ?_
    refine gd_istore X (lv' := [(7, .int v7_3), (0, .ref (a_self 0)), (1, .int v1), (2, .int v2), (3, .int v3), (4, .int v4), (5, .int v5), (6, .int v6)]) d_Ch_addUnitWays_73 (by decide) rfl ?_
    refine gd_aload_n X d_Ch_addUnitWays_75 1 rfl ?_
    refine gd_get X (ci := 3) (C := R_Ch) (T := F_Ch) (N := 12) (v := .ref (a_grammar 0)) 0 0 rfl rfl rfl (in_Ch _) 0 (by decide) (List.mem_cons_of_mem _ fl_Ch_9) rfl rfl d_Ch_addUnitWays_76 ?_
    refine gd_iload X d_Ch_addUnitWays_79 0 rfl ?_
    obtain ⟨r_4, hc_5, h⟩ := bd1_e h
    refine gd_pI X (gd_V X (As := [.int v7_3]) (rest := []) (c_Gr_sortOfCode l D K a_grammar s_grammar v7_3 r_4 hc_5) 1 (gi_V ml_Ch_97 u_Gr_sortOfCode) rfl ⟨rfl, rfl⟩ (by decide +kernel) ⟨by decide, by decide⟩ (ci := 1) rfl rfl rfl rfl rfl rfl (Nat.le_of_ble_eq_true rfl) ⟨Nat.zero_le _, Nat.zero_le _⟩ d_Ch_addUnitWays_81) [1] rfl rfl ?_
    refine gd_iload X d_Ch_addUnitWays_84 5 rfl ?_
    refine gd_icmp_ne X (tgt := 112) d_Ch_addUnitWays_86 (by decide) (fun c_6 => ?_) (fun c_6 => ?_)
    · replace h := it_n c_6 h
      obtain ⟨v6_7, ev6_7, h⟩ := nm_e' h
      refine gd_iinc X (v := v6_7) (lv' := [(6, .int v6_7), (7, .int v7_3), (0, .ref (a_self 0)), (1, .int v1), (2, .int v2), (3, .int v3), (4, .int v4), (5, .int v5)]) d_Ch_addUnitWays_112 (k := 7) rfl (by rw [ev6_7]; rfl) (by decide) rfl ?_
      refine gd_goto X (tgt := 57) d_Ch_addUnitWays_115 (by decide) ?_
      refine gd_loc (lv' := [(0, .ref (a_self 0)), (1, .int v1), (2, .int v2), (3, .int v3), (4, .int v4), (5, .int v5), (6, .int v6_7)]) [2, 3, 4, 5, 6, 7, 0] rfl ?_
      exact hkb v5 v6_7 h
    · replace h := it_p c_6 h
      refine gd_iload X d_Ch_addUnitWays_89 6 rfl ?_
      refine gd_aload_n X d_Ch_addUnitWays_91 1 rfl ?_
      refine gd_aload_n X d_Ch_addUnitWays_92 1 rfl ?_
      refine gd_get X (ci := 3) (C := R_Ch) (T := F_Ch) (N := 12) (v := .ref (a_grammar 0)) 0 0 rfl rfl rfl (in_Ch _) 0 (by decide) (List.mem_cons_of_mem _ fl_Ch_9) rfl rfl d_Ch_addUnitWays_93 ?_
      refine gd_iload X d_Ch_addUnitWays_96 0 rfl ?_
      refine gd_iconst X (v := 0) d_Ch_addUnitWays_98 (by decide) ?_
      obtain ⟨r_8, hc_9, h⟩ := bd1_e h
      refine gd_pI X (gd_V X (As := [.int v7_3, .int 0]) (rest := [.ref (a_self 0), .int v5]) (c_Gr_sortOfSlot l D K a_grammar s_grammar v7_3 0 r_8 hc_9) 2 (gi_V ml_Ch_100 u_Gr_sortOfSlot) rfl ⟨rfl, rfl⟩ (by decide +kernel) ⟨by decide, by decide⟩ (ci := 1) rfl rfl rfl rfl rfl rfl (Nat.le_of_ble_eq_true rfl) ⟨Nat.zero_le _, Nat.zero_le _⟩ d_Ch_addUnitWays_99) [1] rfl rfl ?_
      refine gd_iload_n X d_Ch_addUnitWays_102 2 rfl ?_
      refine gd_iload_n X d_Ch_addUnitWays_103 3 rfl ?_
      obtain ⟨r_10, hc_11, h⟩ := bd1_e h
      refine gd_pI X (gd_V X (As := [.int r_8, .int v1, .int v2]) (rest := [.int v5]) (c_Ch_waysOf l D K a_self a_grammar a_table s_self r_8 v1 v2 r_10 hc_11) 3 (gi_V ml_Ch_159 u_Ch_waysOf) rfl ⟨rfl, rfl⟩ (by decide +kernel) ⟨by decide, by decide⟩ (ci := 3) rfl rfl rfl rfl rfl rfl (Nat.le_of_ble_eq_true rfl) ⟨Nat.zero_le _, Nat.zero_le _⟩ d_Ch_addUnitWays_104) [0] rfl rfl ?_
      obtain ⟨r_12, hc_13, h⟩ := bd1_e h
      refine gd_pI X (gd_Sc X (As := [.int v5, .int r_10]) (rest := []) (c_Wy_plus l D K v5 r_10 r_12 hc_13) 2 (gi_S ml_Ch_176 u_Wy_plus) rfl ⟨rfl, rfl⟩ (by decide +kernel) ⟨by decide, by decide⟩ rfl rfl (Nat.le_of_ble_eq_true rfl) ⟨Nat.zero_le _, Nat.zero_le _⟩ d_Ch_addUnitWays_107) [] rfl rfl ?_
      refine gd_istore X (lv' := [(5, .int r_12), (7, .int v7_3), (0, .ref (a_self 0)), (1, .int v1), (2, .int v2), (3, .int v3), (4, .int v4), (6, .int v6)]) d_Ch_addUnitWays_110 (by decide) rfl ?_
      obtain ⟨v6_14, ev6_14, h⟩ := nm_e' h
      refine gd_iinc X (v := v6_14) (lv' := [(6, .int v6_14), (5, .int r_12), (7, .int v7_3), (0, .ref (a_self 0)), (1, .int v1), (2, .int v2), (3, .int v3), (4, .int v4)]) d_Ch_addUnitWays_112 (k := 7) rfl (by rw [ev6_14]; rfl) (by decide) rfl ?_
      refine gd_goto X (tgt := 57) d_Ch_addUnitWays_115 (by decide) ?_
      refine gd_loc (lv' := [(0, .ref (a_self 0)), (1, .int v1), (2, .int v2), (3, .int v3), (4, .int v4), (5, .int r_12), (6, .int v6_14)]) [3, 4, 5, 6, 7, 1, 0] rfl ?_
      exact hkb r_12 v6_14 h
def f_Ch_addUnitWays_118 (N : Nat) (kb : (Nat → Nat → Int32) → Int32 → Option ((Nat → Nat → Int32))) (kx137 : (Nat → Nat → Int32) → Option ((Nat → Nat → Int32))) (s_self s_grammar : Nat → Nat → Int32) (v1 v2 v3 v4 v5 : Int32) : Option ((Nat → Nat → Int32)) :=
  bd1 (m_Ch_cellOf v4 v1 v2) fun r_1 =>
  bd1 (m_Ch_setWays s_self r_1 v5) fun s_self_3 =>
  nm (v4 + 1) fun v4_5 =>
  kb s_self_3 v4_5
set_option maxHeartbeats 4000000 in
set_option maxRecDepth 100000 in
theorem t_Ch_addUnitWays_118 {p : Program} {l : Launch} {e : Env} {s : State} {m : MethodId} {args : Array Value} {below : List Frame} {meth : Method} {c : Code} {A : Nat → Prop} {D : va_G} {K : Nat → ClassId} (a_self a_grammar a_table : Nat → Nat) (X : gx p s m args c b_Ch_addUnitWays 8 R_Ch w_Ch_addUnitWays D classes (tyK K) A) (hr : meth.sig.returnType = none) (hlk : meth.locks = false) (N : Nat) (f_self : Nat → Nat → Int32) (s_self s_grammar : Nat → Nat → Int32) (v1 v2 v3 v4 v5 : Int32) (kb : (Nat → Nat → Int32) → Int32 → Option ((Nat → Nat → Int32))) (hkb : ∀ (s_self : Nat → Nat → Int32) (v4 : Int32), kb s_self v4 = some f_self → Gd p l e rm_Ch_addUnitWays s m args below meth c 0 0 (MQ below (sq D classes (tyK K) none [wd_Ch K a_self (a_grammar 0) (a_table 0) f_self, wd_Gr K a_grammar s_grammar] A) args s 0 0 A) D classes A 8 38 [wd_Ch K a_self (a_grammar 0) (a_table 0) s_self, wd_Gr K a_grammar s_grammar] [(0, .ref (a_self 0)), (1, .int v1), (2, .int v2), (3, .int v3), (4, .int v4)] []) (kx137 : (Nat → Nat → Int32) → Option ((Nat → Nat → Int32))) (hkx137 : ∀ (s_self : Nat → Nat → Int32), kx137 s_self = some f_self → Gd p l e rm_Ch_addUnitWays s m args below meth c 0 0 (MQ below (sq D classes (tyK K) none [wd_Ch K a_self (a_grammar 0) (a_table 0) f_self, wd_Gr K a_grammar s_grammar] A) args s 0 0 A) D classes A 8 137 [wd_Ch K a_self (a_grammar 0) (a_table 0) s_self, wd_Gr K a_grammar s_grammar] [(0, .ref (a_self 0)), (1, .int v1), (2, .int v2), (3, .int v3)] []) (h : f_Ch_addUnitWays_118 N kb kx137 s_self s_grammar v1 v2 v3 v4 v5 = some f_self) : Gd p l e rm_Ch_addUnitWays s m args below meth c 0 0 (MQ below (sq D classes (tyK K) none [wd_Ch K a_self (a_grammar 0) (a_table 0) f_self, wd_Gr K a_grammar s_grammar] A) args s 0 0 A) D classes A 8 118 [wd_Ch K a_self (a_grammar 0) (a_table 0) s_self, wd_Gr K a_grammar s_grammar] [(0, .ref (a_self 0)), (1, .int v1), (2, .int v2), (3, .int v3), (4, .int v4), (5, .int v5)] [] := by
  unfold f_Ch_addUnitWays_118 at h
  refine gd_aload_n X d_Ch_addUnitWays_118 0 rfl ?_
  refine gd_iload X d_Ch_addUnitWays_119 4 rfl ?_
  refine gd_iload_n X d_Ch_addUnitWays_121 1 rfl ?_
  refine gd_iload_n X d_Ch_addUnitWays_122 2 rfl ?_
  obtain ⟨r_1, hc_2, h⟩ := bd1_e h
  refine gd_pI X (gd_Sc X (As := [.int v4, .int v1, .int v2]) (rest := [.ref (a_self 0)]) (c_Ch_cellOf l D K v4 v1 v2 r_1 hc_2) 3 (gi_S ml_Ch_44 u_Ch_cellOf) rfl ⟨rfl, rfl⟩ (by decide +kernel) ⟨by decide, by decide⟩ rfl rfl (Nat.le_of_ble_eq_true rfl) ⟨Nat.zero_le _, Nat.zero_le _⟩ d_Ch_addUnitWays_123) [] rfl rfl ?_
  refine gd_iload X d_Ch_addUnitWays_126 5 rfl ?_
  obtain ⟨s_self_3, hc_4, h⟩ := bd1_e h
  refine gd_cv X (gd_V X (As := [.int r_1, .int v5]) (rest := []) (c_Ch_setWays l D K a_self a_grammar a_table s_self r_1 v5 s_self_3 hc_4) 2 (gi_V ml_Ch_110 u_Ch_setWays) rfl ⟨rfl, rfl⟩ (by decide +kernel) ⟨by decide, by decide⟩ (ci := 3) rfl rfl rfl rfl rfl rfl (Nat.le_of_ble_eq_true rfl) ⟨Nat.zero_le _, Nat.zero_le _⟩ d_Ch_addUnitWays_128) (w2 := [wd_Ch K a_self (a_grammar 0) (a_table 0) s_self_3, wd_Gr K a_grammar s_grammar]) [0] [1] rfl rfl rfl rfl ⟨rfl, rfl⟩ rfl ?_
  obtain ⟨v4_5, ev4_5, h⟩ := nm_e' h
  refine gd_iinc X (v := v4_5) (lv' := [(4, .int v4_5), (0, .ref (a_self 0)), (1, .int v1), (2, .int v2), (3, .int v3), (5, .int v5)]) d_Ch_addUnitWays_131 (k := 4) rfl (by rw [ev4_5]; rfl) (by decide) rfl ?_
  refine gd_goto X (tgt := 38) d_Ch_addUnitWays_134 (by decide) ?_
  refine gd_loc (lv' := [(0, .ref (a_self 0)), (1, .int v1), (2, .int v2), (3, .int v3), (4, .int v4_5)]) [1, 2, 3, 4, 0] rfl ?_
  exact hkb s_self_3 v4_5 h
def l_Ch_addUnitWays_57 (N : Nat) (s_self s_grammar : Nat → Nat → Int32) (v1 v2 v3 v4 : Int32) (kx118 : Int32 → Option ((Nat → Nat → Int32))) : Nat → Int32 → Int32 → Option ((Nat → Nat → Int32))
  | 0, _, _ => none
  | n + 1, v5, v6 => f_Ch_addUnitWays_57 N (l_Ch_addUnitWays_57 N s_self s_grammar v1 v2 v3 v4 kx118 n) kx118 s_self s_grammar v1 v2 v3 v4 v5 v6
set_option maxHeartbeats 4000000 in
set_option maxRecDepth 100000 in
theorem tl_Ch_addUnitWays_57 {p : Program} {l : Launch} {e : Env} {s : State} {m : MethodId} {args : Array Value} {below : List Frame} {meth : Method} {c : Code} {A : Nat → Prop} {D : va_G} {K : Nat → ClassId} (a_self a_grammar a_table : Nat → Nat) (X : gx p s m args c b_Ch_addUnitWays 8 R_Ch w_Ch_addUnitWays D classes (tyK K) A) (hr : meth.sig.returnType = none) (hlk : meth.locks = false) (N : Nat) (f_self : Nat → Nat → Int32) (s_self s_grammar : Nat → Nat → Int32) (v1 v2 v3 v4 : Int32) (kx118 : Int32 → Option ((Nat → Nat → Int32))) (hkx118 : ∀ (v5 : Int32), kx118 v5 = some f_self → Gd p l e rm_Ch_addUnitWays s m args below meth c 0 0 (MQ below (sq D classes (tyK K) none [wd_Ch K a_self (a_grammar 0) (a_table 0) f_self, wd_Gr K a_grammar s_grammar] A) args s 0 0 A) D classes A 8 118 [wd_Ch K a_self (a_grammar 0) (a_table 0) s_self, wd_Gr K a_grammar s_grammar] [(0, .ref (a_self 0)), (1, .int v1), (2, .int v2), (3, .int v3), (4, .int v4), (5, .int v5)] []) : ∀ (n : Nat) (v5 v6 : Int32), l_Ch_addUnitWays_57 N s_self s_grammar v1 v2 v3 v4 kx118 n v5 v6 = some f_self → Gd p l e rm_Ch_addUnitWays s m args below meth c 0 0 (MQ below (sq D classes (tyK K) none [wd_Ch K a_self (a_grammar 0) (a_table 0) f_self, wd_Gr K a_grammar s_grammar] A) args s 0 0 A) D classes A 8 57 [wd_Ch K a_self (a_grammar 0) (a_table 0) s_self, wd_Gr K a_grammar s_grammar] [(0, .ref (a_self 0)), (1, .int v1), (2, .int v2), (3, .int v3), (4, .int v4), (5, .int v5), (6, .int v6)] [] := by
  intro n
  induction n with
  | zero => intro v5 v6 h; have h : (none : Option ((Nat → Nat → Int32))) = some _ := h; cases h
  | succ n ih =>
    intro v5 v6 h
    exact t_Ch_addUnitWays_57 a_self a_grammar a_table X hr hlk N f_self s_self s_grammar v1 v2 v3 v4 v5 v6 (l_Ch_addUnitWays_57 N s_self s_grammar v1 v2 v3 v4 kx118 n) ih kx118 hkx118 h
def f_Ch_addUnitWays_38 (N : Nat) (kb : (Nat → Nat → Int32) → Int32 → Option ((Nat → Nat → Int32))) (kx137 : (Nat → Nat → Int32) → Option ((Nat → Nat → Int32))) (s_self s_grammar : Nat → Nat → Int32) (v1 v2 v3 v4 : Int32) : Option ((Nat → Nat → Int32)) :=
  if 6 ≤ v4 then
    kx137 s_self
  else
    ck v4 6 <|
    nm (s_self 7 (Int32.toNatClampNeg v4)) fun v5_3 =>
    l_Ch_addUnitWays_57 N s_self s_grammar v1 v2 v3 v4 (fun v5 => f_Ch_addUnitWays_118 N kb kx137 s_self s_grammar v1 v2 v3 v4 v5) N v5_3 0
set_option maxHeartbeats 4000000 in
set_option maxRecDepth 100000 in
theorem t_Ch_addUnitWays_38 {p : Program} {l : Launch} {e : Env} {s : State} {m : MethodId} {args : Array Value} {below : List Frame} {meth : Method} {c : Code} {A : Nat → Prop} {D : va_G} {K : Nat → ClassId} (a_self a_grammar a_table : Nat → Nat) (X : gx p s m args c b_Ch_addUnitWays 8 R_Ch w_Ch_addUnitWays D classes (tyK K) A) (hr : meth.sig.returnType = none) (hlk : meth.locks = false) (N : Nat) (f_self : Nat → Nat → Int32) (s_self s_grammar : Nat → Nat → Int32) (v1 v2 v3 v4 : Int32) (kb : (Nat → Nat → Int32) → Int32 → Option ((Nat → Nat → Int32))) (hkb : ∀ (s_self : Nat → Nat → Int32) (v4 : Int32), kb s_self v4 = some f_self → Gd p l e rm_Ch_addUnitWays s m args below meth c 0 0 (MQ below (sq D classes (tyK K) none [wd_Ch K a_self (a_grammar 0) (a_table 0) f_self, wd_Gr K a_grammar s_grammar] A) args s 0 0 A) D classes A 8 38 [wd_Ch K a_self (a_grammar 0) (a_table 0) s_self, wd_Gr K a_grammar s_grammar] [(0, .ref (a_self 0)), (1, .int v1), (2, .int v2), (3, .int v3), (4, .int v4)] []) (kx137 : (Nat → Nat → Int32) → Option ((Nat → Nat → Int32))) (hkx137 : ∀ (s_self : Nat → Nat → Int32), kx137 s_self = some f_self → Gd p l e rm_Ch_addUnitWays s m args below meth c 0 0 (MQ below (sq D classes (tyK K) none [wd_Ch K a_self (a_grammar 0) (a_table 0) f_self, wd_Gr K a_grammar s_grammar] A) args s 0 0 A) D classes A 8 137 [wd_Ch K a_self (a_grammar 0) (a_table 0) s_self, wd_Gr K a_grammar s_grammar] [(0, .ref (a_self 0)), (1, .int v1), (2, .int v2), (3, .int v3)] []) (h : f_Ch_addUnitWays_38 N kb kx137 s_self s_grammar v1 v2 v3 v4 = some f_self) : Gd p l e rm_Ch_addUnitWays s m args below meth c 0 0 (MQ below (sq D classes (tyK K) none [wd_Ch K a_self (a_grammar 0) (a_table 0) f_self, wd_Gr K a_grammar s_grammar] A) args s 0 0 A) D classes A 8 38 [wd_Ch K a_self (a_grammar 0) (a_table 0) s_self, wd_Gr K a_grammar s_grammar] [(0, .ref (a_self 0)), (1, .int v1), (2, .int v2), (3, .int v3), (4, .int v4)] [] := by
  unfold f_Ch_addUnitWays_38 at h
  refine gd_iload X d_Ch_addUnitWays_38 4 rfl ?_
  refine gd_bipush X (v := 6) d_Ch_addUnitWays_40 (by decide) ?_
  refine gd_icmp_ge X (tgt := 137) d_Ch_addUnitWays_42 (by decide) (fun c_1 => ?_) (fun c_1 => ?_)
  · replace h := it_p c_1 h
    refine gd_loc (lv' := [(0, .ref (a_self 0)), (1, .int v1), (2, .int v2), (3, .int v3)]) [0, 1, 2, 3] rfl ?_
    exact hkx137 s_self h
  · replace h := it_n c_1 h
    refine gd_aload_n X d_Ch_addUnitWays_45 0 rfl ?_
    refine gd_get X (ci := 3) (C := R_Ch) (T := F_Ch) (N := 12) (v := .ref (a_self 7)) 0 0 rfl rfl rfl (in_Ch _) 11 (by decide) (List.mem_cons_of_mem _ fl_Ch_41) rfl rfl d_Ch_addUnitWays_46 ?_
    refine gd_iload X d_Ch_addUnitWays_49 4 rfl ?_
    obtain ⟨hi_2, h⟩ := ck_e h
    refine gd_iald X 0 7 0 rfl rfl rfl hi_2 d_Ch_addUnitWays_51 ?_
    obtain ⟨v5_3, ev5_3, h⟩ := nm_e' h
    refine gd_topi ev5_3 ?_
    refine gd_istore X (lv' := [(5, .int v5_3), (0, .ref (a_self 0)), (1, .int v1), (2, .int v2), (3, .int v3), (4, .int v4)]) d_Ch_addUnitWays_52 (by decide) rfl ?_
    refine gd_iconst X (v := 0) d_Ch_addUnitWays_54 (by decide) ?_
    refine gd_istore X (lv' := [(6, .int 0), (5, .int v5_3), (0, .ref (a_self 0)), (1, .int v1), (2, .int v2), (3, .int v3), (4, .int v4)]) d_Ch_addUnitWays_55 (by decide) rfl ?_
    refine gd_loc (lv' := [(0, .ref (a_self 0)), (1, .int v1), (2, .int v2), (3, .int v3), (4, .int v4), (5, .int v5_3), (6, .int 0)]) [2, 3, 4, 5, 6, 1, 0] rfl ?_
    exact tl_Ch_addUnitWays_57 a_self a_grammar a_table X hr hlk N f_self s_self s_grammar v1 v2 v3 v4 (fun v5 => f_Ch_addUnitWays_118 N kb kx137 s_self s_grammar v1 v2 v3 v4 v5) (fun v5 h => t_Ch_addUnitWays_118 a_self a_grammar a_table X hr hlk N f_self s_self s_grammar v1 v2 v3 v4 v5 kb hkb kx137 hkx137 h) N v5_3 0 h
def f_Ch_addUnitWays_137 (N : Nat) (kb : (Nat → Nat → Int32) → Int32 → Option ((Nat → Nat → Int32))) (kx143 : (Nat → Nat → Int32) → Option ((Nat → Nat → Int32))) (s_self s_grammar : Nat → Nat → Int32) (v1 v2 v3 : Int32) : Option ((Nat → Nat → Int32)) :=
  nm (v3 + 1) fun v3_1 =>
  kb s_self v3_1
set_option maxHeartbeats 4000000 in
set_option maxRecDepth 100000 in
theorem t_Ch_addUnitWays_137 {p : Program} {l : Launch} {e : Env} {s : State} {m : MethodId} {args : Array Value} {below : List Frame} {meth : Method} {c : Code} {A : Nat → Prop} {D : va_G} {K : Nat → ClassId} (a_self a_grammar a_table : Nat → Nat) (X : gx p s m args c b_Ch_addUnitWays 8 R_Ch w_Ch_addUnitWays D classes (tyK K) A) (hr : meth.sig.returnType = none) (hlk : meth.locks = false) (N : Nat) (f_self : Nat → Nat → Int32) (s_self s_grammar : Nat → Nat → Int32) (v1 v2 v3 : Int32) (kb : (Nat → Nat → Int32) → Int32 → Option ((Nat → Nat → Int32))) (hkb : ∀ (s_self : Nat → Nat → Int32) (v3 : Int32), kb s_self v3 = some f_self → Gd p l e rm_Ch_addUnitWays s m args below meth c 0 0 (MQ below (sq D classes (tyK K) none [wd_Ch K a_self (a_grammar 0) (a_table 0) f_self, wd_Gr K a_grammar s_grammar] A) args s 0 0 A) D classes A 8 29 [wd_Ch K a_self (a_grammar 0) (a_table 0) s_self, wd_Gr K a_grammar s_grammar] [(0, .ref (a_self 0)), (1, .int v1), (2, .int v2), (3, .int v3)] []) (kx143 : (Nat → Nat → Int32) → Option ((Nat → Nat → Int32))) (hkx143 : ∀ (s_self : Nat → Nat → Int32), kx143 s_self = some f_self → Gd p l e rm_Ch_addUnitWays s m args below meth c 0 0 (MQ below (sq D classes (tyK K) none [wd_Ch K a_self (a_grammar 0) (a_table 0) f_self, wd_Gr K a_grammar s_grammar] A) args s 0 0 A) D classes A 8 143 [wd_Ch K a_self (a_grammar 0) (a_table 0) s_self, wd_Gr K a_grammar s_grammar] [] []) (h : f_Ch_addUnitWays_137 N kb kx143 s_self s_grammar v1 v2 v3 = some f_self) : Gd p l e rm_Ch_addUnitWays s m args below meth c 0 0 (MQ below (sq D classes (tyK K) none [wd_Ch K a_self (a_grammar 0) (a_table 0) f_self, wd_Gr K a_grammar s_grammar] A) args s 0 0 A) D classes A 8 137 [wd_Ch K a_self (a_grammar 0) (a_table 0) s_self, wd_Gr K a_grammar s_grammar] [(0, .ref (a_self 0)), (1, .int v1), (2, .int v2), (3, .int v3)] [] := by
  unfold f_Ch_addUnitWays_137 at h
  obtain ⟨v3_1, ev3_1, h⟩ := nm_e' h
  refine gd_iinc X (v := v3_1) (lv' := [(3, .int v3_1), (0, .ref (a_self 0)), (1, .int v1), (2, .int v2)]) d_Ch_addUnitWays_137 (k := 3) rfl (by rw [ev3_1]; rfl) (by decide) rfl ?_
  refine gd_goto X (tgt := 29) d_Ch_addUnitWays_140 (by decide) ?_
  refine gd_loc (lv' := [(0, .ref (a_self 0)), (1, .int v1), (2, .int v2), (3, .int v3_1)]) [1, 2, 3, 0] rfl ?_
  exact hkb s_self v3_1 h
def l_Ch_addUnitWays_38 (N : Nat) (s_grammar : Nat → Nat → Int32) (v1 v2 v3 : Int32) (kx137 : (Nat → Nat → Int32) → Option ((Nat → Nat → Int32))) : Nat → (Nat → Nat → Int32) → Int32 → Option ((Nat → Nat → Int32))
  | 0, _, _ => none
  | n + 1, s_self, v4 => f_Ch_addUnitWays_38 N (l_Ch_addUnitWays_38 N s_grammar v1 v2 v3 kx137 n) kx137 s_self s_grammar v1 v2 v3 v4
set_option maxHeartbeats 4000000 in
set_option maxRecDepth 100000 in
theorem tl_Ch_addUnitWays_38 {p : Program} {l : Launch} {e : Env} {s : State} {m : MethodId} {args : Array Value} {below : List Frame} {meth : Method} {c : Code} {A : Nat → Prop} {D : va_G} {K : Nat → ClassId} (a_self a_grammar a_table : Nat → Nat) (X : gx p s m args c b_Ch_addUnitWays 8 R_Ch w_Ch_addUnitWays D classes (tyK K) A) (hr : meth.sig.returnType = none) (hlk : meth.locks = false) (N : Nat) (f_self : Nat → Nat → Int32) (s_grammar : Nat → Nat → Int32) (v1 v2 v3 : Int32) (kx137 : (Nat → Nat → Int32) → Option ((Nat → Nat → Int32))) (hkx137 : ∀ (s_self : Nat → Nat → Int32), kx137 s_self = some f_self → Gd p l e rm_Ch_addUnitWays s m args below meth c 0 0 (MQ below (sq D classes (tyK K) none [wd_Ch K a_self (a_grammar 0) (a_table 0) f_self, wd_Gr K a_grammar s_grammar] A) args s 0 0 A) D classes A 8 137 [wd_Ch K a_self (a_grammar 0) (a_table 0) s_self, wd_Gr K a_grammar s_grammar] [(0, .ref (a_self 0)), (1, .int v1), (2, .int v2), (3, .int v3)] []) : ∀ (n : Nat) (s_self : Nat → Nat → Int32) (v4 : Int32), l_Ch_addUnitWays_38 N s_grammar v1 v2 v3 kx137 n s_self v4 = some f_self → Gd p l e rm_Ch_addUnitWays s m args below meth c 0 0 (MQ below (sq D classes (tyK K) none [wd_Ch K a_self (a_grammar 0) (a_table 0) f_self, wd_Gr K a_grammar s_grammar] A) args s 0 0 A) D classes A 8 38 [wd_Ch K a_self (a_grammar 0) (a_table 0) s_self, wd_Gr K a_grammar s_grammar] [(0, .ref (a_self 0)), (1, .int v1), (2, .int v2), (3, .int v3), (4, .int v4)] [] := by
  intro n
  induction n with
  | zero => intro s_self v4 h; have h : (none : Option ((Nat → Nat → Int32))) = some _ := h; cases h
  | succ n ih =>
    intro s_self v4 h
    exact t_Ch_addUnitWays_38 a_self a_grammar a_table X hr hlk N f_self s_self s_grammar v1 v2 v3 v4 (l_Ch_addUnitWays_38 N s_grammar v1 v2 v3 kx137 n) ih kx137 hkx137 h
def f_Ch_addUnitWays_29 (N : Nat) (kb : (Nat → Nat → Int32) → Int32 → Option ((Nat → Nat → Int32))) (kx143 : (Nat → Nat → Int32) → Option ((Nat → Nat → Int32))) (s_self s_grammar : Nat → Nat → Int32) (v1 v2 v3 : Int32) : Option ((Nat → Nat → Int32)) :=
  if 6 ≤ v3 then
    kx143 s_self
  else
    l_Ch_addUnitWays_38 N s_grammar v1 v2 v3 (fun s_self => f_Ch_addUnitWays_137 N kb kx143 s_self s_grammar v1 v2 v3) N s_self 0
set_option maxHeartbeats 4000000 in
set_option maxRecDepth 100000 in
theorem t_Ch_addUnitWays_29 {p : Program} {l : Launch} {e : Env} {s : State} {m : MethodId} {args : Array Value} {below : List Frame} {meth : Method} {c : Code} {A : Nat → Prop} {D : va_G} {K : Nat → ClassId} (a_self a_grammar a_table : Nat → Nat) (X : gx p s m args c b_Ch_addUnitWays 8 R_Ch w_Ch_addUnitWays D classes (tyK K) A) (hr : meth.sig.returnType = none) (hlk : meth.locks = false) (N : Nat) (f_self : Nat → Nat → Int32) (s_self s_grammar : Nat → Nat → Int32) (v1 v2 v3 : Int32) (kb : (Nat → Nat → Int32) → Int32 → Option ((Nat → Nat → Int32))) (hkb : ∀ (s_self : Nat → Nat → Int32) (v3 : Int32), kb s_self v3 = some f_self → Gd p l e rm_Ch_addUnitWays s m args below meth c 0 0 (MQ below (sq D classes (tyK K) none [wd_Ch K a_self (a_grammar 0) (a_table 0) f_self, wd_Gr K a_grammar s_grammar] A) args s 0 0 A) D classes A 8 29 [wd_Ch K a_self (a_grammar 0) (a_table 0) s_self, wd_Gr K a_grammar s_grammar] [(0, .ref (a_self 0)), (1, .int v1), (2, .int v2), (3, .int v3)] []) (kx143 : (Nat → Nat → Int32) → Option ((Nat → Nat → Int32))) (hkx143 : ∀ (s_self : Nat → Nat → Int32), kx143 s_self = some f_self → Gd p l e rm_Ch_addUnitWays s m args below meth c 0 0 (MQ below (sq D classes (tyK K) none [wd_Ch K a_self (a_grammar 0) (a_table 0) f_self, wd_Gr K a_grammar s_grammar] A) args s 0 0 A) D classes A 8 143 [wd_Ch K a_self (a_grammar 0) (a_table 0) s_self, wd_Gr K a_grammar s_grammar] [] []) (h : f_Ch_addUnitWays_29 N kb kx143 s_self s_grammar v1 v2 v3 = some f_self) : Gd p l e rm_Ch_addUnitWays s m args below meth c 0 0 (MQ below (sq D classes (tyK K) none [wd_Ch K a_self (a_grammar 0) (a_table 0) f_self, wd_Gr K a_grammar s_grammar] A) args s 0 0 A) D classes A 8 29 [wd_Ch K a_self (a_grammar 0) (a_table 0) s_self, wd_Gr K a_grammar s_grammar] [(0, .ref (a_self 0)), (1, .int v1), (2, .int v2), (3, .int v3)] [] := by
  unfold f_Ch_addUnitWays_29 at h
  refine gd_iload_n X d_Ch_addUnitWays_29 3 rfl ?_
  refine gd_bipush X (v := 6) d_Ch_addUnitWays_30 (by decide) ?_
  refine gd_icmp_ge X (tgt := 143) d_Ch_addUnitWays_32 (by decide) (fun c_1 => ?_) (fun c_1 => ?_)
  · replace h := it_p c_1 h
    refine gd_loc (lv' := []) [] rfl ?_
    exact hkx143 s_self h
  · replace h := it_n c_1 h
    refine gd_iconst X (v := 0) d_Ch_addUnitWays_35 (by decide) ?_
    refine gd_istore X (lv' := [(4, .int 0), (0, .ref (a_self 0)), (1, .int v1), (2, .int v2), (3, .int v3)]) d_Ch_addUnitWays_36 (by decide) rfl ?_
    refine gd_loc (lv' := [(0, .ref (a_self 0)), (1, .int v1), (2, .int v2), (3, .int v3), (4, .int 0)]) [1, 2, 3, 4, 0] rfl ?_
    exact tl_Ch_addUnitWays_38 a_self a_grammar a_table X hr hlk N f_self s_grammar v1 v2 v3 (fun s_self => f_Ch_addUnitWays_137 N kb kx143 s_self s_grammar v1 v2 v3) (fun s_self h => t_Ch_addUnitWays_137 a_self a_grammar a_table X hr hlk N f_self s_self s_grammar v1 v2 v3 kb hkb kx143 hkx143 h) N s_self 0 h
def f_Ch_addUnitWays_143 (N : Nat) (s_self s_grammar : Nat → Nat → Int32) : Option ((Nat → Nat → Int32)) :=
  some s_self
set_option maxHeartbeats 4000000 in
set_option maxRecDepth 100000 in
theorem t_Ch_addUnitWays_143 {p : Program} {l : Launch} {e : Env} {s : State} {m : MethodId} {args : Array Value} {below : List Frame} {meth : Method} {c : Code} {A : Nat → Prop} {D : va_G} {K : Nat → ClassId} (a_self a_grammar a_table : Nat → Nat) (X : gx p s m args c b_Ch_addUnitWays 8 R_Ch w_Ch_addUnitWays D classes (tyK K) A) (hr : meth.sig.returnType = none) (hlk : meth.locks = false) (N : Nat) (f_self : Nat → Nat → Int32) (s_self s_grammar : Nat → Nat → Int32) (h : f_Ch_addUnitWays_143 N s_self s_grammar = some f_self) : Gd p l e rm_Ch_addUnitWays s m args below meth c 0 0 (MQ below (sq D classes (tyK K) none [wd_Ch K a_self (a_grammar 0) (a_table 0) f_self, wd_Gr K a_grammar s_grammar] A) args s 0 0 A) D classes A 8 143 [wd_Ch K a_self (a_grammar 0) (a_table 0) s_self, wd_Gr K a_grammar s_grammar] [] [] := by
  unfold f_Ch_addUnitWays_143 at h
  cases h
  exact gd_vret X hr hlk d_Ch_addUnitWays_143
def l_Ch_addUnitWays_29 (N : Nat) (s_grammar : Nat → Nat → Int32) (v1 v2 : Int32) (kx143 : (Nat → Nat → Int32) → Option ((Nat → Nat → Int32))) : Nat → (Nat → Nat → Int32) → Int32 → Option ((Nat → Nat → Int32))
  | 0, _, _ => none
  | n + 1, s_self, v3 => f_Ch_addUnitWays_29 N (l_Ch_addUnitWays_29 N s_grammar v1 v2 kx143 n) kx143 s_self s_grammar v1 v2 v3
set_option maxHeartbeats 4000000 in
set_option maxRecDepth 100000 in
theorem tl_Ch_addUnitWays_29 {p : Program} {l : Launch} {e : Env} {s : State} {m : MethodId} {args : Array Value} {below : List Frame} {meth : Method} {c : Code} {A : Nat → Prop} {D : va_G} {K : Nat → ClassId} (a_self a_grammar a_table : Nat → Nat) (X : gx p s m args c b_Ch_addUnitWays 8 R_Ch w_Ch_addUnitWays D classes (tyK K) A) (hr : meth.sig.returnType = none) (hlk : meth.locks = false) (N : Nat) (f_self : Nat → Nat → Int32) (s_grammar : Nat → Nat → Int32) (v1 v2 : Int32) (kx143 : (Nat → Nat → Int32) → Option ((Nat → Nat → Int32))) (hkx143 : ∀ (s_self : Nat → Nat → Int32), kx143 s_self = some f_self → Gd p l e rm_Ch_addUnitWays s m args below meth c 0 0 (MQ below (sq D classes (tyK K) none [wd_Ch K a_self (a_grammar 0) (a_table 0) f_self, wd_Gr K a_grammar s_grammar] A) args s 0 0 A) D classes A 8 143 [wd_Ch K a_self (a_grammar 0) (a_table 0) s_self, wd_Gr K a_grammar s_grammar] [] []) : ∀ (n : Nat) (s_self : Nat → Nat → Int32) (v3 : Int32), l_Ch_addUnitWays_29 N s_grammar v1 v2 kx143 n s_self v3 = some f_self → Gd p l e rm_Ch_addUnitWays s m args below meth c 0 0 (MQ below (sq D classes (tyK K) none [wd_Ch K a_self (a_grammar 0) (a_table 0) f_self, wd_Gr K a_grammar s_grammar] A) args s 0 0 A) D classes A 8 29 [wd_Ch K a_self (a_grammar 0) (a_table 0) s_self, wd_Gr K a_grammar s_grammar] [(0, .ref (a_self 0)), (1, .int v1), (2, .int v2), (3, .int v3)] [] := by
  intro n
  induction n with
  | zero => intro s_self v3 h; have h : (none : Option ((Nat → Nat → Int32))) = some _ := h; cases h
  | succ n ih =>
    intro s_self v3 h
    exact t_Ch_addUnitWays_29 a_self a_grammar a_table X hr hlk N f_self s_self s_grammar v1 v2 v3 (l_Ch_addUnitWays_29 N s_grammar v1 v2 kx143 n) ih kx143 hkx143 h
def f_Ch_addUnitWays_27 (N : Nat) (s_self s_grammar : Nat → Nat → Int32) (v1 v2 : Int32) : Option ((Nat → Nat → Int32)) :=
  l_Ch_addUnitWays_29 N s_grammar v1 v2 (fun s_self => f_Ch_addUnitWays_143 N s_self s_grammar) N s_self 0
set_option maxHeartbeats 4000000 in
set_option maxRecDepth 100000 in
theorem t_Ch_addUnitWays_27 {p : Program} {l : Launch} {e : Env} {s : State} {m : MethodId} {args : Array Value} {below : List Frame} {meth : Method} {c : Code} {A : Nat → Prop} {D : va_G} {K : Nat → ClassId} (a_self a_grammar a_table : Nat → Nat) (X : gx p s m args c b_Ch_addUnitWays 8 R_Ch w_Ch_addUnitWays D classes (tyK K) A) (hr : meth.sig.returnType = none) (hlk : meth.locks = false) (N : Nat) (f_self : Nat → Nat → Int32) (s_self s_grammar : Nat → Nat → Int32) (v1 v2 : Int32) (h : f_Ch_addUnitWays_27 N s_self s_grammar v1 v2 = some f_self) : Gd p l e rm_Ch_addUnitWays s m args below meth c 0 0 (MQ below (sq D classes (tyK K) none [wd_Ch K a_self (a_grammar 0) (a_table 0) f_self, wd_Gr K a_grammar s_grammar] A) args s 0 0 A) D classes A 8 27 [wd_Ch K a_self (a_grammar 0) (a_table 0) s_self, wd_Gr K a_grammar s_grammar] [(0, .ref (a_self 0)), (1, .int v1), (2, .int v2)] [] := by
  unfold f_Ch_addUnitWays_27 at h
  refine gd_iconst X (v := 0) d_Ch_addUnitWays_27 (by decide) ?_
  refine gd_istore_n X (lv' := [(3, .int 0), (0, .ref (a_self 0)), (1, .int v1), (2, .int v2)]) d_Ch_addUnitWays_28 rfl (by decide) rfl ?_
  refine gd_loc (lv' := [(0, .ref (a_self 0)), (1, .int v1), (2, .int v2), (3, .int 0)]) [1, 2, 3, 0] rfl ?_
  exact tl_Ch_addUnitWays_29 a_self a_grammar a_table X hr hlk N f_self s_grammar v1 v2 (fun s_self => f_Ch_addUnitWays_143 N s_self s_grammar) (fun s_self h => t_Ch_addUnitWays_143 a_self a_grammar a_table X hr hlk N f_self s_self s_grammar h) N s_self 0 h
def l_Ch_addUnitWays_2 (N : Nat) (s_grammar : Nat → Nat → Int32) (v1 v2 : Int32) (kx27 : (Nat → Nat → Int32) → Option ((Nat → Nat → Int32))) : Nat → (Nat → Nat → Int32) → Int32 → Option ((Nat → Nat → Int32))
  | 0, _, _ => none
  | n + 1, s_self, v3 => f_Ch_addUnitWays_2 N (l_Ch_addUnitWays_2 N s_grammar v1 v2 kx27 n) kx27 s_self s_grammar v1 v2 v3
set_option maxHeartbeats 4000000 in
set_option maxRecDepth 100000 in
theorem tl_Ch_addUnitWays_2 {p : Program} {l : Launch} {e : Env} {s : State} {m : MethodId} {args : Array Value} {below : List Frame} {meth : Method} {c : Code} {A : Nat → Prop} {D : va_G} {K : Nat → ClassId} (a_self a_grammar a_table : Nat → Nat) (X : gx p s m args c b_Ch_addUnitWays 8 R_Ch w_Ch_addUnitWays D classes (tyK K) A) (hr : meth.sig.returnType = none) (hlk : meth.locks = false) (N : Nat) (f_self : Nat → Nat → Int32) (s_grammar : Nat → Nat → Int32) (v1 v2 : Int32) (kx27 : (Nat → Nat → Int32) → Option ((Nat → Nat → Int32))) (hkx27 : ∀ (s_self : Nat → Nat → Int32), kx27 s_self = some f_self → Gd p l e rm_Ch_addUnitWays s m args below meth c 0 0 (MQ below (sq D classes (tyK K) none [wd_Ch K a_self (a_grammar 0) (a_table 0) f_self, wd_Gr K a_grammar s_grammar] A) args s 0 0 A) D classes A 8 27 [wd_Ch K a_self (a_grammar 0) (a_table 0) s_self, wd_Gr K a_grammar s_grammar] [(0, .ref (a_self 0)), (1, .int v1), (2, .int v2)] []) : ∀ (n : Nat) (s_self : Nat → Nat → Int32) (v3 : Int32), l_Ch_addUnitWays_2 N s_grammar v1 v2 kx27 n s_self v3 = some f_self → Gd p l e rm_Ch_addUnitWays s m args below meth c 0 0 (MQ below (sq D classes (tyK K) none [wd_Ch K a_self (a_grammar 0) (a_table 0) f_self, wd_Gr K a_grammar s_grammar] A) args s 0 0 A) D classes A 8 2 [wd_Ch K a_self (a_grammar 0) (a_table 0) s_self, wd_Gr K a_grammar s_grammar] [(0, .ref (a_self 0)), (1, .int v1), (2, .int v2), (3, .int v3)] [] := by
  intro n
  induction n with
  | zero => intro s_self v3 h; have h : (none : Option ((Nat → Nat → Int32))) = some _ := h; cases h
  | succ n ih =>
    intro s_self v3 h
    exact t_Ch_addUnitWays_2 a_self a_grammar a_table X hr hlk N f_self s_self s_grammar v1 v2 v3 (l_Ch_addUnitWays_2 N s_grammar v1 v2 kx27 n) ih kx27 hkx27 h
def f_Ch_addUnitWays_0 (N : Nat) (s_self s_grammar : Nat → Nat → Int32) (v1 v2 : Int32) : Option ((Nat → Nat → Int32)) :=
  l_Ch_addUnitWays_2 N s_grammar v1 v2 (fun s_self => f_Ch_addUnitWays_27 N s_self s_grammar v1 v2) N s_self 0
set_option maxHeartbeats 4000000 in
set_option maxRecDepth 100000 in
theorem t_Ch_addUnitWays_0 {p : Program} {l : Launch} {e : Env} {s : State} {m : MethodId} {args : Array Value} {below : List Frame} {meth : Method} {c : Code} {A : Nat → Prop} {D : va_G} {K : Nat → ClassId} (a_self a_grammar a_table : Nat → Nat) (X : gx p s m args c b_Ch_addUnitWays 8 R_Ch w_Ch_addUnitWays D classes (tyK K) A) (hr : meth.sig.returnType = none) (hlk : meth.locks = false) (N : Nat) (f_self : Nat → Nat → Int32) (s_self s_grammar : Nat → Nat → Int32) (v1 v2 : Int32) (h : f_Ch_addUnitWays_0 N s_self s_grammar v1 v2 = some f_self) : Gd p l e rm_Ch_addUnitWays s m args below meth c 0 0 (MQ below (sq D classes (tyK K) none [wd_Ch K a_self (a_grammar 0) (a_table 0) f_self, wd_Gr K a_grammar s_grammar] A) args s 0 0 A) D classes A 8 0 [wd_Ch K a_self (a_grammar 0) (a_table 0) s_self, wd_Gr K a_grammar s_grammar] [(0, .ref (a_self 0)), (1, .int v1), (2, .int v2)] [] := by
  unfold f_Ch_addUnitWays_0 at h
  refine gd_iconst X (v := 0) d_Ch_addUnitWays_0 (by decide) ?_
  refine gd_istore_n X (lv' := [(3, .int 0), (0, .ref (a_self 0)), (1, .int v1), (2, .int v2)]) d_Ch_addUnitWays_1 rfl (by decide) rfl ?_
  refine gd_loc (lv' := [(0, .ref (a_self 0)), (1, .int v1), (2, .int v2), (3, .int 0)]) [1, 2, 3, 0] rfl ?_
  exact tl_Ch_addUnitWays_2 a_self a_grammar a_table X hr hlk N f_self s_grammar v1 v2 (fun s_self => f_Ch_addUnitWays_27 N s_self s_grammar v1 v2) (fun s_self h => t_Ch_addUnitWays_27 a_self a_grammar a_table X hr hlk N f_self s_self s_grammar v1 v2 h) N s_self 0 h
def m_Ch_addUnitWays (N : Nat) (s_self s_grammar : Nat → Nat → Int32) (v1 v2 : Int32) : Option ((Nat → Nat → Int32)) := f_Ch_addUnitWays_0 N s_self s_grammar v1 v2
set_option maxHeartbeats 4000000 in
set_option maxRecDepth 100000 in
theorem c_Ch_addUnitWays (l : Launch) (D : va_G) (K : Nat → ClassId) (a_self a_grammar a_table : Nat → Nat) (N : Nat) (s_self s_grammar : Nat → Nat → Int32) (v1 v2 : Int32) (f_self : Nat → Nat → Int32) (h : m_Ch_addUnitWays N s_self s_grammar v1 v2 = some f_self) : SMet l y_Ch_addUnitWays w_Ch_addUnitWays rm_Ch_addUnitWays D classes (tyK K) [.ref (a_self 0), .int v1, .int v2] none [wd_Ch K a_self (a_grammar 0) (a_table 0) s_self, wd_Gr K a_grammar s_grammar] [wd_Ch K a_self (a_grammar 0) (a_table 0) f_self, wd_Gr K a_grammar s_grammar] := by
  refine sm_of R_Ch (by decide) rfl rfl (Nat.le_of_ble_eq_true rfl) ?_
  intro p e s m below meth c A X hr hlk
  refine gd_loc (lv' := [(0, .ref (a_self 0)), (1, .int v1), (2, .int v2)]) [0, 1, 2] rfl ?_
  exact t_Ch_addUnitWays_0 a_self a_grammar a_table X hr hlk N f_self s_self s_grammar v1 v2 h
abbrev b_Ch_partCell : ByteArray := prog_2_method_18_code
def y_Ch_partCell : MethodName := ⟨R_Ch, "partCell", "(II)I"⟩
def w_Ch_partCell : List Cond := .code y_Ch_partCell b_Ch_partCell 3 (some .int) :: TB
theorem k_Ch_partCell : Cond.code y_Ch_partCell b_Ch_partCell 3 (some .int) ∈ TB := tb_of 488 (by decide +kernel) (by decide +kernel)
theorem d_Ch_partCell_0 : decode b_Ch_partCell 0 = .ok (.iload_n 2, 1) := by decide +kernel
theorem d_Ch_partCell_1 : decode b_Ch_partCell 1 = .ok (.ifCond .lt 8, 3) := by decide +kernel
theorem d_Ch_partCell_4 : decode b_Ch_partCell 4 = .ok (.iload_n 2, 1) := by decide +kernel
theorem d_Ch_partCell_5 : decode b_Ch_partCell 5 = .ok (.iconst 4, 1) := by decide +kernel
theorem d_Ch_partCell_6 : decode b_Ch_partCell 6 = .ok (.if_icmp .lt 5, 3) := by decide +kernel
theorem d_Ch_partCell_9 : decode b_Ch_partCell 9 = .ok (.iconst (-1), 1) := by decide +kernel
theorem d_Ch_partCell_10 : decode b_Ch_partCell 10 = .ok (.ireturn, 1) := by decide +kernel
theorem d_Ch_partCell_11 : decode b_Ch_partCell 11 = .ok (.aload_n 0, 1) := by decide +kernel
theorem d_Ch_partCell_12 : decode b_Ch_partCell 12 = .ok (.getfield 9, 3) := by decide +kernel
theorem d_Ch_partCell_15 : decode b_Ch_partCell 15 = .ok (.iload_n 1, 1) := by decide +kernel
theorem d_Ch_partCell_16 : decode b_Ch_partCell 16 = .ok (.iload_n 2, 1) := by decide +kernel
theorem d_Ch_partCell_17 : decode b_Ch_partCell 17 = .ok (.invokevirtual 100, 3) := by decide +kernel
theorem d_Ch_partCell_20 : decode b_Ch_partCell 20 = .ok (.aload_n 0, 1) := by decide +kernel
theorem d_Ch_partCell_21 : decode b_Ch_partCell 21 = .ok (.getfield 35, 3) := by decide +kernel
theorem d_Ch_partCell_24 : decode b_Ch_partCell 24 = .ok (.iload_n 2, 1) := by decide +kernel
theorem d_Ch_partCell_25 : decode b_Ch_partCell 25 = .ok (.iaload, 1) := by decide +kernel
theorem d_Ch_partCell_26 : decode b_Ch_partCell 26 = .ok (.aload_n 0, 1) := by decide +kernel
theorem d_Ch_partCell_27 : decode b_Ch_partCell 27 = .ok (.getfield 38, 3) := by decide +kernel
theorem d_Ch_partCell_30 : decode b_Ch_partCell 30 = .ok (.iload_n 2, 1) := by decide +kernel
theorem d_Ch_partCell_31 : decode b_Ch_partCell 31 = .ok (.iaload, 1) := by decide +kernel
theorem d_Ch_partCell_32 : decode b_Ch_partCell 32 = .ok (.invokestatic 44, 3) := by decide +kernel
theorem d_Ch_partCell_35 : decode b_Ch_partCell 35 = .ok (.ireturn, 1) := by decide +kernel
theorem fl_Ch_35 : Cond.fieldLink R_Ch 35 "RuleTrees$Chart" "spanFrom" "[I" ∈ TB := tb_of 169 (by decide +kernel) (by decide +kernel)
theorem fl_Ch_38 : Cond.fieldLink R_Ch 38 "RuleTrees$Chart" "spanTo" "[I" ∈ TB := tb_of 170 (by decide +kernel) (by decide +kernel)
abbrev rm_Ch_partCell : Room := { frames := 2, cells := 0, slots := 0, locals := 43 }
def f_Ch_partCell_0 (s_self s_grammar : Nat → Nat → Int32) (v1 v2 : Int32) : Option ((Int32)) :=
  if v2 < 0 then
    some ((-1))
  else
    if v2 < 4 then
      bd1 (m_Gr_sortOfSlot s_grammar v1 v2) fun r_3 =>
      ck v2 4 <|
      ck v2 4 <|
      bd1 (m_Ch_cellOf r_3 (s_self 5 (Int32.toNatClampNeg v2)) (s_self 6 (Int32.toNatClampNeg v2))) fun r_7 =>
      some (r_7)
    else
      some ((-1))
set_option maxHeartbeats 4000000 in
set_option maxRecDepth 100000 in
theorem t_Ch_partCell_0 {p : Program} {l : Launch} {e : Env} {s : State} {m : MethodId} {args : Array Value} {below : List Frame} {meth : Method} {c : Code} {A : Nat → Prop} {D : va_G} {K : Nat → ClassId} (a_self a_grammar a_table : Nat → Nat) (X : gx p s m args c b_Ch_partCell 3 R_Ch w_Ch_partCell D classes (tyK K) A) (hr : meth.sig.returnType = some .int) (hlk : meth.locks = false) (r : Int32) (s_self s_grammar : Nat → Nat → Int32) (v1 v2 : Int32) (h : f_Ch_partCell_0 s_self s_grammar v1 v2 = some r) : Gd p l e rm_Ch_partCell s m args below meth c 0 0 (MQ below (sq D classes (tyK K) (some (.int r)) [wd_Ch K a_self (a_grammar 0) (a_table 0) s_self, wd_Gr K a_grammar s_grammar] A) args s 0 0 A) D classes A 3 0 [wd_Ch K a_self (a_grammar 0) (a_table 0) s_self, wd_Gr K a_grammar s_grammar] [(0, .ref (a_self 0)), (1, .int v1), (2, .int v2)] [] := by
  unfold f_Ch_partCell_0 at h
  refine gd_iload_n X d_Ch_partCell_0 2 rfl ?_
  refine gd_if_lt X (tgt := 9) d_Ch_partCell_1 (by decide) (fun c_1 => ?_) (fun c_1 => ?_)
  · replace h := it_p c_1 h
    refine gd_iconst X (v := (-1)) d_Ch_partCell_9 (by decide) ?_
    cases h
    exact gd_iret X hr hlk d_Ch_partCell_10
  · replace h := it_n c_1 h
    refine gd_iload_n X d_Ch_partCell_4 2 rfl ?_
    refine gd_iconst X (v := 4) d_Ch_partCell_5 (by decide) ?_
    refine gd_icmp_lt X (tgt := 11) d_Ch_partCell_6 (by decide) (fun c_2 => ?_) (fun c_2 => ?_)
    · replace h := it_p c_2 h
      refine gd_aload_n X d_Ch_partCell_11 0 rfl ?_
      refine gd_get X (ci := 3) (C := R_Ch) (T := F_Ch) (N := 12) (v := .ref (a_grammar 0)) 0 0 rfl rfl rfl (in_Ch _) 0 (by decide) (List.mem_cons_of_mem _ fl_Ch_9) rfl rfl d_Ch_partCell_12 ?_
      refine gd_iload_n X d_Ch_partCell_15 1 rfl ?_
      refine gd_iload_n X d_Ch_partCell_16 2 rfl ?_
      obtain ⟨r_3, hc_4, h⟩ := bd1_e h
      refine gd_pI X (gd_V X (As := [.int v1, .int v2]) (rest := []) (c_Gr_sortOfSlot l D K a_grammar s_grammar v1 v2 r_3 hc_4) 2 (gi_V ml_Ch_100 u_Gr_sortOfSlot) rfl ⟨rfl, rfl⟩ (by decide +kernel) ⟨by decide, by decide⟩ (ci := 1) rfl rfl rfl rfl rfl rfl (Nat.le_of_ble_eq_true rfl) ⟨Nat.zero_le _, Nat.zero_le _⟩ d_Ch_partCell_17) [1] rfl rfl ?_
      refine gd_aload_n X d_Ch_partCell_20 0 rfl ?_
      refine gd_get X (ci := 3) (C := R_Ch) (T := F_Ch) (N := 12) (v := .ref (a_self 5)) 0 0 rfl rfl rfl (in_Ch _) 9 (by decide) (List.mem_cons_of_mem _ fl_Ch_35) rfl rfl d_Ch_partCell_21 ?_
      refine gd_iload_n X d_Ch_partCell_24 2 rfl ?_
      obtain ⟨hi_5, h⟩ := ck_e h
      refine gd_iald X 0 5 0 rfl rfl rfl hi_5 d_Ch_partCell_25 ?_
      refine gd_aload_n X d_Ch_partCell_26 0 rfl ?_
      refine gd_get X (ci := 3) (C := R_Ch) (T := F_Ch) (N := 12) (v := .ref (a_self 6)) 0 0 rfl rfl rfl (in_Ch _) 10 (by decide) (List.mem_cons_of_mem _ fl_Ch_38) rfl rfl d_Ch_partCell_27 ?_
      refine gd_iload_n X d_Ch_partCell_30 2 rfl ?_
      obtain ⟨hi_6, h⟩ := ck_e h
      refine gd_iald X 0 6 0 rfl rfl rfl hi_6 d_Ch_partCell_31 ?_
      obtain ⟨r_7, hc_8, h⟩ := bd1_e h
      refine gd_pI X (gd_Sc X (As := [.int r_3, .int (s_self 5 (Int32.toNatClampNeg v2)), .int (s_self 6 (Int32.toNatClampNeg v2))]) (rest := []) (c_Ch_cellOf l D K r_3 (s_self 5 (Int32.toNatClampNeg v2)) (s_self 6 (Int32.toNatClampNeg v2)) r_7 hc_8) 3 (gi_S ml_Ch_44 u_Ch_cellOf) rfl ⟨rfl, rfl⟩ (by decide +kernel) ⟨by decide, by decide⟩ rfl rfl (Nat.le_of_ble_eq_true rfl) ⟨Nat.zero_le _, Nat.zero_le _⟩ d_Ch_partCell_32) [] rfl rfl ?_
      cases h
      exact gd_iret X hr hlk d_Ch_partCell_35
    · replace h := it_n c_2 h
      refine gd_iconst X (v := (-1)) d_Ch_partCell_9 (by decide) ?_
      cases h
      exact gd_iret X hr hlk d_Ch_partCell_10
def m_Ch_partCell (s_self s_grammar : Nat → Nat → Int32) (v1 v2 : Int32) : Option ((Int32)) := f_Ch_partCell_0 s_self s_grammar v1 v2
set_option maxHeartbeats 4000000 in
set_option maxRecDepth 100000 in
theorem c_Ch_partCell (l : Launch) (D : va_G) (K : Nat → ClassId) (a_self a_grammar a_table : Nat → Nat) (s_self s_grammar : Nat → Nat → Int32) (v1 v2 : Int32) (r : Int32) (h : m_Ch_partCell s_self s_grammar v1 v2 = some r) : SMet l y_Ch_partCell w_Ch_partCell rm_Ch_partCell D classes (tyK K) [.ref (a_self 0), .int v1, .int v2] (some (.int r)) [wd_Ch K a_self (a_grammar 0) (a_table 0) s_self, wd_Gr K a_grammar s_grammar] [wd_Ch K a_self (a_grammar 0) (a_table 0) s_self, wd_Gr K a_grammar s_grammar] := by
  refine sm_of R_Ch (by decide) rfl rfl (Nat.le_of_ble_eq_true rfl) ?_
  intro p e s m below meth c A X hr hlk
  refine gd_loc (lv' := [(0, .ref (a_self 0)), (1, .int v1), (2, .int v2)]) [0, 1, 2] rfl ?_
  exact t_Ch_partCell_0 a_self a_grammar a_table X hr hlk r s_self s_grammar v1 v2 h
