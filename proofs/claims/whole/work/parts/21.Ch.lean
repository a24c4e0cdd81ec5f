abbrev b_Ch_catchUp : ByteArray := prog_2_method_5_code
def y_Ch_catchUp : MethodName := ⟨R_Ch, "catchUp", "(LRuleTrees$Symbols;)V"⟩
def w_Ch_catchUp : List Cond := .code y_Ch_catchUp b_Ch_catchUp 4 none :: TB
theorem k_Ch_catchUp : Cond.code y_Ch_catchUp b_Ch_catchUp 4 none ∈ TB := tb_of 370 (by decide +kernel) (by decide +kernel)
theorem d_Ch_catchUp_0 : decode b_Ch_catchUp 0 = .ok (.aload_n 0, 1) := by decide +kernel
theorem d_Ch_catchUp_1 : decode b_Ch_catchUp 1 = .ok (.getfield 63, 3) := by decide +kernel
theorem d_Ch_catchUp_4 : decode b_Ch_catchUp 4 = .ok (.aload_n 0, 1) := by decide +kernel
theorem d_Ch_catchUp_5 : decode b_Ch_catchUp 5 = .ok (.getfield 9, 3) := by decide +kernel
theorem d_Ch_catchUp_8 : decode b_Ch_catchUp 8 = .ok (.getfield 67, 3) := by decide +kernel
theorem d_Ch_catchUp_11 : decode b_Ch_catchUp 11 = .ok (.if_icmp .ge 12, 3) := by decide +kernel
theorem d_Ch_catchUp_14 : decode b_Ch_catchUp 14 = .ok (.aload_n 0, 1) := by decide +kernel
theorem d_Ch_catchUp_15 : decode b_Ch_catchUp 15 = .ok (.invokevirtual 72, 3) := by decide +kernel
theorem d_Ch_catchUp_18 : decode b_Ch_catchUp 18 = .ok (.aload_n 0, 1) := by decide +kernel
theorem d_Ch_catchUp_19 : decode b_Ch_catchUp 19 = .ok (.iconst 0, 1) := by decide +kernel
theorem d_Ch_catchUp_20 : decode b_Ch_catchUp 20 = .ok (.putfield 75, 3) := by decide +kernel
theorem d_Ch_catchUp_23 : decode b_Ch_catchUp 23 = .ok (.iconst 0, 1) := by decide +kernel
theorem d_Ch_catchUp_24 : decode b_Ch_catchUp 24 = .ok (.istore_n 2, 1) := by decide +kernel
theorem d_Ch_catchUp_25 : decode b_Ch_catchUp 25 = .ok (.iload_n 2, 1) := by decide +kernel
theorem d_Ch_catchUp_26 : decode b_Ch_catchUp 26 = .ok (.aload_n 1, 1) := by decide +kernel
theorem d_Ch_catchUp_27 : decode b_Ch_catchUp 27 = .ok (.getfield 78, 3) := by decide +kernel
theorem d_Ch_catchUp_30 : decode b_Ch_catchUp 30 = .ok (.if_icmp .ge 78, 3) := by decide +kernel
theorem d_Ch_catchUp_33 : decode b_Ch_catchUp 33 = .ok (.iload_n 2, 1) := by decide +kernel
theorem d_Ch_catchUp_34 : decode b_Ch_catchUp 34 = .ok (.bipush 12, 2) := by decide +kernel
theorem d_Ch_catchUp_36 : decode b_Ch_catchUp 36 = .ok (.if_icmp .ge 72, 3) := by decide +kernel
theorem d_Ch_catchUp_39 : decode b_Ch_catchUp 39 = .ok (.iload_n 2, 1) := by decide +kernel
theorem d_Ch_catchUp_40 : decode b_Ch_catchUp 40 = .ok (.aload_n 0, 1) := by decide +kernel
theorem d_Ch_catchUp_41 : decode b_Ch_catchUp 41 = .ok (.getfield 75, 3) := by decide +kernel
theorem d_Ch_catchUp_44 : decode b_Ch_catchUp 44 = .ok (.if_icmp .ge 20, 3) := by decide +kernel
theorem d_Ch_catchUp_47 : decode b_Ch_catchUp 47 = .ok (.aload_n 0, 1) := by decide +kernel
theorem d_Ch_catchUp_48 : decode b_Ch_catchUp 48 = .ok (.getfield 26, 3) := by decide +kernel
theorem d_Ch_catchUp_51 : decode b_Ch_catchUp 51 = .ok (.iload_n 2, 1) := by decide +kernel
theorem d_Ch_catchUp_52 : decode b_Ch_catchUp 52 = .ok (.iaload, 1) := by decide +kernel
theorem d_Ch_catchUp_53 : decode b_Ch_catchUp 53 = .ok (.aload_n 1, 1) := by decide +kernel
theorem d_Ch_catchUp_54 : decode b_Ch_catchUp 54 = .ok (.iload_n 2, 1) := by decide +kernel
theorem d_Ch_catchUp_55 : decode b_Ch_catchUp 55 = .ok (.invokevirtual 83, 3) := by decide +kernel
theorem d_Ch_catchUp_58 : decode b_Ch_catchUp 58 = .ok (.if_icmp .ne 6, 3) := by decide +kernel
theorem d_Ch_catchUp_61 : decode b_Ch_catchUp 61 = .ok (.goto 41, 3) := by decide +kernel
theorem d_Ch_catchUp_64 : decode b_Ch_catchUp 64 = .ok (.aload_n 0, 1) := by decide +kernel
theorem d_Ch_catchUp_65 : decode b_Ch_catchUp 65 = .ok (.getfield 26, 3) := by decide +kernel
theorem d_Ch_catchUp_68 : decode b_Ch_catchUp 68 = .ok (.iload_n 2, 1) := by decide +kernel
theorem d_Ch_catchUp_69 : decode b_Ch_catchUp 69 = .ok (.aload_n 1, 1) := by decide +kernel
theorem d_Ch_catchUp_70 : decode b_Ch_catchUp 70 = .ok (.iload_n 2, 1) := by decide +kernel
theorem d_Ch_catchUp_71 : decode b_Ch_catchUp 71 = .ok (.invokevirtual 83, 3) := by decide +kernel
theorem d_Ch_catchUp_74 : decode b_Ch_catchUp 74 = .ok (.iastore, 1) := by decide +kernel
theorem d_Ch_catchUp_75 : decode b_Ch_catchUp 75 = .ok (.aload_n 0, 1) := by decide +kernel
theorem d_Ch_catchUp_76 : decode b_Ch_catchUp 76 = .ok (.iload_n 2, 1) := by decide +kernel
theorem d_Ch_catchUp_77 : decode b_Ch_catchUp 77 = .ok (.iconst 1, 1) := by decide +kernel
theorem d_Ch_catchUp_78 : decode b_Ch_catchUp 78 = .ok (.iadd, 1) := by decide +kernel
theorem d_Ch_catchUp_79 : decode b_Ch_catchUp 79 = .ok (.putfield 75, 3) := by decide +kernel
theorem d_Ch_catchUp_82 : decode b_Ch_catchUp 82 = .ok (.iload_n 2, 1) := by decide +kernel
theorem d_Ch_catchUp_83 : decode b_Ch_catchUp 83 = .ok (.istore_n 3, 1) := by decide +kernel
theorem d_Ch_catchUp_84 : decode b_Ch_catchUp 84 = .ok (.iload_n 3, 1) := by decide +kernel
theorem d_Ch_catchUp_85 : decode b_Ch_catchUp 85 = .ok (.ifCond .lt 17, 3) := by decide +kernel
theorem d_Ch_catchUp_88 : decode b_Ch_catchUp 88 = .ok (.aload_n 0, 1) := by decide +kernel
theorem d_Ch_catchUp_89 : decode b_Ch_catchUp 89 = .ok (.iload_n 3, 1) := by decide +kernel
theorem d_Ch_catchUp_90 : decode b_Ch_catchUp 90 = .ok (.iload_n 2, 1) := by decide +kernel
theorem d_Ch_catchUp_91 : decode b_Ch_catchUp 91 = .ok (.iconst 1, 1) := by decide +kernel
theorem d_Ch_catchUp_92 : decode b_Ch_catchUp 92 = .ok (.iadd, 1) := by decide +kernel
theorem d_Ch_catchUp_93 : decode b_Ch_catchUp 93 = .ok (.invokevirtual 86, 3) := by decide +kernel
theorem d_Ch_catchUp_96 : decode b_Ch_catchUp 96 = .ok (.iinc 3 (-1), 3) := by decide +kernel
theorem d_Ch_catchUp_99 : decode b_Ch_catchUp 99 = .ok (.goto (-15), 3) := by decide +kernel
theorem d_Ch_catchUp_102 : decode b_Ch_catchUp 102 = .ok (.iinc 2 1, 3) := by decide +kernel
theorem d_Ch_catchUp_105 : decode b_Ch_catchUp 105 = .ok (.goto (-80), 3) := by decide +kernel
theorem d_Ch_catchUp_108 : decode b_Ch_catchUp 108 = .ok (.return_, 1) := by decide +kernel
theorem ml_Ch_86 : Cond.methodLink R_Ch 86 ⟨"RuleTrees$Chart", "fillStretch", "(II)V"⟩ ∈ TB := tb_of 415 (by decide +kernel) (by decide +kernel)
theorem u_Ch_fillStretch : (Cond.instanceMethod y_Ch_fillStretch ∈ TB ∧ Cond.selects R_Ch y_Ch_fillStretch y_Ch_fillStretch ∈ TB) ∧ Cond.initialized R_Ch ∈ TB ∧ Cond.code y_Ch_fillStretch b_Ch_fillStretch 5 none ∈ TB := ⟨⟨(tb_of 417 (by decide +kernel) (by decide +kernel)), (tb_of 4 (by decide +kernel) (by decide +kernel))⟩, (tb_of 64 (by decide +kernel) (by decide +kernel)), k_Ch_fillStretch⟩
theorem ml_Ch_83 : Cond.methodLink R_Ch 83 ⟨"RuleTrees$Symbols", "at", "(I)I"⟩ ∈ TB := tb_of 411 (by decide +kernel) (by decide +kernel)
theorem fl_Ch_75 : Cond.fieldLink R_Ch 75 "RuleTrees$Chart" "done" "I" ∈ TB := tb_of 164 (by decide +kernel) (by decide +kernel)
theorem fl_Ch_78 : Cond.fieldLink R_Ch 78 "RuleTrees$Symbols" "length" "I" ∈ TB := tb_of 215 (by decide +kernel) (by decide +kernel)
theorem ml_Ch_72 : Cond.methodLink R_Ch 72 ⟨"RuleTrees$Chart", "seeRules", "()V"⟩ ∈ TB := tb_of 371 (by decide +kernel) (by decide +kernel)
theorem u_Ch_seeRules : (Cond.instanceMethod y_Ch_seeRules ∈ TB ∧ Cond.selects R_Ch y_Ch_seeRules y_Ch_seeRules ∈ TB) ∧ Cond.initialized R_Ch ∈ TB ∧ Cond.code y_Ch_seeRules b_Ch_seeRules 2 none ∈ TB := ⟨⟨(tb_of 373 (by decide +kernel) (by decide +kernel)), (tb_of 1 (by decide +kernel) (by decide +kernel))⟩, (tb_of 64 (by decide +kernel) (by decide +kernel)), k_Ch_seeRules⟩
abbrev rm_Ch_catchUp : Room := { frames := 15, cells := 0, slots := 0, locals := 436 }
def f_Ch_catchUp_84 (N : Nat) (n_p0 : Nat) (kb : (Nat → Nat → Int32) → (Nat → Nat → Int32) → Int32 → Option ((Nat → Nat → Int32) × (Nat → Nat → Int32))) (kx102 : (Nat → Nat → Int32) → (Nat → Nat → Int32) → Option ((Nat → Nat → Int32) × (Nat → Nat → Int32))) (s_self s_grammar s_table s_p0 : Nat → Nat → Int32) (v2 v3 : Int32) : Option ((Nat → Nat → Int32) × (Nat → Nat → Int32)) :=
  if v3 < 0 then
    kx102 s_self s_table
  else
    bd2 (m_Ch_fillStretch N s_self s_grammar s_table v3 (v2 + 1)) fun s_self_2 s_table_3 =>
    nm (v3 + (-1)) fun v3_5 =>
    kb s_self_2 s_table_3 v3_5
set_option maxHeartbeats 4000000 in
set_option maxRecDepth 100000 in
theorem t_Ch_catchUp_84 {p : Program} {l : Launch} {e : Env} {s : State} {m : MethodId} {args : Array Value} {below : List Frame} {meth : Method} {c : Code} {A : Nat → Prop} {D : va_G} {K : Nat → ClassId} (a_self a_grammar a_table a_p0 : Nat → Nat) (n_p0 : Nat) (X : gx p s m args c b_Ch_catchUp 4 R_Ch w_Ch_catchUp D classes (tyK K) A) (hr : meth.sig.returnType = none) (hlk : meth.locks = false) (N : Nat) (f_self f_table : Nat → Nat → Int32) (s_self s_grammar s_table s_p0 : Nat → Nat → Int32) (v2 v3 : Int32) (kb : (Nat → Nat → Int32) → (Nat → Nat → Int32) → Int32 → Option ((Nat → Nat → Int32) × (Nat → Nat → Int32))) (hkb : ∀ (s_self s_table : Nat → Nat → Int32) (v3 : Int32), kb s_self s_table v3 = some (f_self, f_table) → Gd p l e rm_Ch_catchUp s m args below meth c 0 0 (MQ below (sq D classes (tyK K) none [wd_Ch K a_self (a_grammar 0) (a_table 0) f_self, wd_Gr K a_grammar s_grammar, wd_Tt K a_table f_table, wd_Sy K a_p0 n_p0 s_p0] A) args s 0 0 A) D classes A 4 84 [wd_Ch K a_self (a_grammar 0) (a_table 0) s_self, wd_Gr K a_grammar s_grammar, wd_Tt K a_table s_table, wd_Sy K a_p0 n_p0 s_p0] [(0, .ref (a_self 0)), (1, .ref (a_p0 0)), (2, .int v2), (3, .int v3)] []) (kx102 : (Nat → Nat → Int32) → (Nat → Nat → Int32) → Option ((Nat → Nat → Int32) × (Nat → Nat → Int32))) (hkx102 : ∀ (s_self s_table : Nat → Nat → Int32), kx102 s_self s_table = some (f_self, f_table) → Gd p l e rm_Ch_catchUp s m args below meth c 0 0 (MQ below (sq D classes (tyK K) none [wd_Ch K a_self (a_grammar 0) (a_table 0) f_self, wd_Gr K a_grammar s_grammar, wd_Tt K a_table f_table, wd_Sy K a_p0 n_p0 s_p0] A) args s 0 0 A) D classes A 4 102 [wd_Ch K a_self (a_grammar 0) (a_table 0) s_self, wd_Gr K a_grammar s_grammar, wd_Tt K a_table s_table, wd_Sy K a_p0 n_p0 s_p0] [(0, .ref (a_self 0)), (1, .ref (a_p0 0)), (2, .int v2)] []) (h : f_Ch_catchUp_84 N n_p0 kb kx102 s_self s_grammar s_table s_p0 v2 v3 = some (f_self, f_table)) : Gd p l e rm_Ch_catchUp s m args below meth c 0 0 (MQ below (sq D classes (tyK K) none [wd_Ch K a_self (a_grammar 0) (a_table 0) f_self, wd_Gr K a_grammar s_grammar, wd_Tt K a_table f_table, wd_Sy K a_p0 n_p0 s_p0] A) args s 0 0 A) D classes A 4 84 [wd_Ch K a_self (a_grammar 0) (a_table 0) s_self, wd_Gr K a_grammar s_grammar, wd_Tt K a_table s_table, wd_Sy K a_p0 n_p0 s_p0] [(0, .ref (a_self 0)), (1, .ref (a_p0 0)), (2, .int v2), (3, .int v3)] [] := by
  unfold f_Ch_catchUp_84 at h
  refine gd_iload_n X d_Ch_catchUp_84 3 rfl ?_
  refine gd_if_lt X (tgt := 102) d_Ch_catchUp_85 (by decide) (fun c_1 => ?_) (fun c_1 => ?_)
  · replace h := it_p c_1 h
    refine gd_loc (lv' := [(0, .ref (a_self 0)), (1, .ref (a_p0 0)), (2, .int v2)]) [0, 1, 2] rfl ?_
    exact hkx102 s_self s_table h
  · replace h := it_n c_1 h
    refine gd_aload_n X d_Ch_catchUp_88 0 rfl ?_
    refine gd_iload_n X d_Ch_catchUp_89 3 rfl ?_
    refine gd_iload_n X d_Ch_catchUp_90 2 rfl ?_
    refine gd_iconst X (v := 1) d_Ch_catchUp_91 (by decide) ?_
    refine gd_iadd X d_Ch_catchUp_92 ?_
    obtain ⟨s_self_2, s_table_3, hc_4, h⟩ := bd2_e h
    refine gd_cv X (gd_V X (As := [.int v3, .int (v2 + 1)]) (rest := []) (c_Ch_fillStretch l D K a_self a_grammar a_table N s_self s_grammar s_table v3 (v2 + 1) s_self_2 s_table_3 hc_4) 2 (gi_V ml_Ch_86 u_Ch_fillStretch) rfl ⟨rfl, rfl⟩ (by decide +kernel) ⟨by decide, by decide⟩ (ci := 3) rfl rfl rfl rfl rfl rfl (Nat.le_of_ble_eq_true rfl) ⟨Nat.zero_le _, Nat.zero_le _⟩ d_Ch_catchUp_93) (w2 := [wd_Ch K a_self (a_grammar 0) (a_table 0) s_self_2, wd_Gr K a_grammar s_grammar, wd_Tt K a_table s_table_3, wd_Sy K a_p0 n_p0 s_p0]) [0, 1, 2] [3] rfl rfl rfl rfl ⟨rfl, rfl⟩ rfl ?_
    obtain ⟨v3_5, ev3_5, h⟩ := nm_e' h
    refine gd_iinc X (v := v3_5) (lv' := [(3, .int v3_5), (0, .ref (a_self 0)), (1, .ref (a_p0 0)), (2, .int v2)]) d_Ch_catchUp_96 (k := 3) rfl (by rw [ev3_5, show Int32.ofInt (-1) = (-1) from by decide]) (by decide) rfl ?_
    refine gd_goto X (tgt := 84) d_Ch_catchUp_99 (by decide) ?_
    refine gd_loc (lv' := [(0, .ref (a_self 0)), (1, .ref (a_p0 0)), (2, .int v2), (3, .int v3_5)]) [1, 2, 3, 0] rfl ?_
    exact hkb s_self_2 s_table_3 v3_5 h
def f_Ch_catchUp_102 (N : Nat) (n_p0 : Nat) (kb : (Nat → Nat → Int32) → (Nat → Nat → Int32) → Int32 → Option ((Nat → Nat → Int32) × (Nat → Nat → Int32))) (kx108 : (Nat → Nat → Int32) → (Nat → Nat → Int32) → Option ((Nat → Nat → Int32) × (Nat → Nat → Int32))) (s_self s_grammar s_table s_p0 : Nat → Nat → Int32) (v2 : Int32) : Option ((Nat → Nat → Int32) × (Nat → Nat → Int32)) :=
  nm (v2 + 1) fun v2_1 =>
  kb s_self s_table v2_1
set_option maxHeartbeats 4000000 in
set_option maxRecDepth 100000 in
theorem t_Ch_catchUp_102 {p : Program} {l : Launch} {e : Env} {s : State} {m : MethodId} {args : Array Value} {below : List Frame} {meth : Method} {c : Code} {A : Nat → Prop} {D : va_G} {K : Nat → ClassId} (a_self a_grammar a_table a_p0 : Nat → Nat) (n_p0 : Nat) (X : gx p s m args c b_Ch_catchUp 4 R_Ch w_Ch_catchUp D classes (tyK K) A) (hr : meth.sig.returnType = none) (hlk : meth.locks = false) (N : Nat) (f_self f_table : Nat → Nat → Int32) (s_self s_grammar s_table s_p0 : Nat → Nat → Int32) (v2 : Int32) (kb : (Nat → Nat → Int32) → (Nat → Nat → Int32) → Int32 → Option ((Nat → Nat → Int32) × (Nat → Nat → Int32))) (hkb : ∀ (s_self s_table : Nat → Nat → Int32) (v2 : Int32), kb s_self s_table v2 = some (f_self, f_table) → Gd p l e rm_Ch_catchUp s m args below meth c 0 0 (MQ below (sq D classes (tyK K) none [wd_Ch K a_self (a_grammar 0) (a_table 0) f_self, wd_Gr K a_grammar s_grammar, wd_Tt K a_table f_table, wd_Sy K a_p0 n_p0 s_p0] A) args s 0 0 A) D classes A 4 25 [wd_Ch K a_self (a_grammar 0) (a_table 0) s_self, wd_Gr K a_grammar s_grammar, wd_Tt K a_table s_table, wd_Sy K a_p0 n_p0 s_p0] [(0, .ref (a_self 0)), (1, .ref (a_p0 0)), (2, .int v2)] []) (kx108 : (Nat → Nat → Int32) → (Nat → Nat → Int32) → Option ((Nat → Nat → Int32) × (Nat → Nat → Int32))) (hkx108 : ∀ (s_self s_table : Nat → Nat → Int32), kx108 s_self s_table = some (f_self, f_table) → Gd p l e rm_Ch_catchUp s m args below meth c 0 0 (MQ below (sq D classes (tyK K) none [wd_Ch K a_self (a_grammar 0) (a_table 0) f_self, wd_Gr K a_grammar s_grammar, wd_Tt K a_table f_table, wd_Sy K a_p0 n_p0 s_p0] A) args s 0 0 A) D classes A 4 108 [wd_Ch K a_self (a_grammar 0) (a_table 0) s_self, wd_Gr K a_grammar s_grammar, wd_Tt K a_table s_table, wd_Sy K a_p0 n_p0 s_p0] [] []) (h : f_Ch_catchUp_102 N n_p0 kb kx108 s_self s_grammar s_table s_p0 v2 = some (f_self, f_table)) : Gd p l e rm_Ch_catchUp s m args below meth c 0 0 (MQ below (sq D classes (tyK K) none [wd_Ch K a_self (a_grammar 0) (a_table 0) f_self, wd_Gr K a_grammar s_grammar, wd_Tt K a_table f_table, wd_Sy K a_p0 n_p0 s_p0] A) args s 0 0 A) D classes A 4 102 [wd_Ch K a_self (a_grammar 0) (a_table 0) s_self, wd_Gr K a_grammar s_grammar, wd_Tt K a_table s_table, wd_Sy K a_p0 n_p0 s_p0] [(0, .ref (a_self 0)), (1, .ref (a_p0 0)), (2, .int v2)] [] := by
  unfold f_Ch_catchUp_102 at h
  obtain ⟨v2_1, ev2_1, h⟩ := nm_e' h
  refine gd_iinc X (v := v2_1) (lv' := [(2, .int v2_1), (0, .ref (a_self 0)), (1, .ref (a_p0 0))]) d_Ch_catchUp_102 (k := 2) rfl (by rw [ev2_1]; rfl) (by decide) rfl ?_
  refine gd_goto X (tgt := 25) d_Ch_catchUp_105 (by decide) ?_
  refine gd_loc (lv' := [(0, .ref (a_self 0)), (1, .ref (a_p0 0)), (2, .int v2_1)]) [1, 2, 0] rfl ?_
  exact hkb s_self s_table v2_1 h
def l_Ch_catchUp_84 (N : Nat) (n_p0 : Nat) (s_grammar s_p0 : Nat → Nat → Int32) (v2 : Int32) (kx102 : (Nat → Nat → Int32) → (Nat → Nat → Int32) → Option ((Nat → Nat → Int32) × (Nat → Nat → Int32))) : Nat → (Nat → Nat → Int32) → (Nat → Nat → Int32) → Int32 → Option ((Nat → Nat → Int32) × (Nat → Nat → Int32))
  | 0, _, _, _ => none
  | n + 1, s_self, s_table, v3 => f_Ch_catchUp_84 N n_p0 (l_Ch_catchUp_84 N n_p0 s_grammar s_p0 v2 kx102 n) kx102 s_self s_grammar s_table s_p0 v2 v3
set_option maxHeartbeats 4000000 in
set_option maxRecDepth 100000 in
theorem tl_Ch_catchUp_84 {p : Program} {l : Launch} {e : Env} {s : State} {m : MethodId} {args : Array Value} {below : List Frame} {meth : Method} {c : Code} {A : Nat → Prop} {D : va_G} {K : Nat → ClassId} (a_self a_grammar a_table a_p0 : Nat → Nat) (n_p0 : Nat) (X : gx p s m args c b_Ch_catchUp 4 R_Ch w_Ch_catchUp D classes (tyK K) A) (hr : meth.sig.returnType = none) (hlk : meth.locks = false) (N : Nat) (f_self f_table : Nat → Nat → Int32) (s_grammar s_p0 : Nat → Nat → Int32) (v2 : Int32) (kx102 : (Nat → Nat → Int32) → (Nat → Nat → Int32) → Option ((Nat → Nat → Int32) × (Nat → Nat → Int32))) (hkx102 : ∀ (s_self s_table : Nat → Nat → Int32), kx102 s_self s_table = some (f_self, f_table) → Gd p l e rm_Ch_catchUp s m args below meth c 0 0 (MQ below (sq D classes (tyK K) none [wd_Ch K a_self (a_grammar 0) (a_table 0) f_self, wd_Gr K a_grammar s_grammar, wd_Tt K a_table f_table, wd_Sy K a_p0 n_p0 s_p0] A) args s 0 0 A) D classes A 4 102 [wd_Ch K a_self (a_grammar 0) (a_table 0) s_self, wd_Gr K a_grammar s_grammar, wd_Tt K a_table s_table, wd_Sy K a_p0 n_p0 s_p0] [(0, .ref (a_self 0)), (1, .ref (a_p0 0)), (2, .int v2)] []) : ∀ (n : Nat) (s_self s_table : Nat → Nat → Int32) (v3 : Int32), l_Ch_catchUp_84 N n_p0 s_grammar s_p0 v2 kx102 n s_self s_table v3 = some (f_self, f_table) → Gd p l e rm_Ch_catchUp s m args below meth c 0 0 (MQ below (sq D classes (tyK K) none [wd_Ch K a_self (a_grammar 0) (a_table 0) f_self, wd_Gr K a_grammar s_grammar, wd_Tt K a_table f_table, wd_Sy K a_p0 n_p0 s_p0] A) args s 0 0 A) D classes A 4 84 [wd_Ch K a_self (a_grammar 0) (a_table 0) s_self, wd_Gr K a_grammar s_grammar, wd_Tt K a_table s_table, wd_Sy K a_p0 n_p0 s_p0] [(0, .ref (a_self 0)), (1, .ref (a_p0 0)), (2, .int v2), (3, .int v3)] [] := by
  intro n
  induction n with
  | zero => intro s_self s_table v3 h; have h : (none : Option ((Nat → Nat → Int32) × (Nat → Nat → Int32))) = some _ := h; cases h
  | succ n ih =>
    intro s_self s_table v3 h
    exact t_Ch_catchUp_84 a_self a_grammar a_table a_p0 n_p0 X hr hlk N f_self f_table s_self s_grammar s_table s_p0 v2 v3 (l_Ch_catchUp_84 N n_p0 s_grammar s_p0 v2 kx102 n) ih kx102 hkx102 h
def f_Ch_catchUp_64 (N : Nat) (n_p0 : Nat) (kb : (Nat → Nat → Int32) → (Nat → Nat → Int32) → Int32 → Option ((Nat → Nat → Int32) × (Nat → Nat → Int32))) (kx108 : (Nat → Nat → Int32) → (Nat → Nat → Int32) → Option ((Nat → Nat → Int32) × (Nat → Nat → Int32))) (s_self s_grammar s_table s_p0 : Nat → Nat → Int32) (v2 : Int32) : Option ((Nat → Nat → Int32) × (Nat → Nat → Int32)) :=
  bd1 (m_Sy_at n_p0 s_p0 v2) fun r_1 =>
  ck v2 12 <| nm (st2 s_self 2 (Int32.toNatClampNeg v2) r_1) fun s_self_4 =>
  nm (st2 s_self_4 0 4 (v2 + 1)) fun s_self_5 =>
  l_Ch_catchUp_84 N n_p0 s_grammar s_p0 v2 (fun s_self s_table => f_Ch_catchUp_102 N n_p0 kb kx108 s_self s_grammar s_table s_p0 v2) N s_self_5 s_table v2
set_option maxHeartbeats 4000000 in
set_option maxRecDepth 100000 in
theorem t_Ch_catchUp_64 {p : Program} {l : Launch} {e : Env} {s : State} {m : MethodId} {args : Array Value} {below : List Frame} {meth : Method} {c : Code} {A : Nat → Prop} {D : va_G} {K : Nat → ClassId} (a_self a_grammar a_table a_p0 : Nat → Nat) (n_p0 : Nat) (X : gx p s m args c b_Ch_catchUp 4 R_Ch w_Ch_catchUp D classes (tyK K) A) (hr : meth.sig.returnType = none) (hlk : meth.locks = false) (N : Nat) (f_self f_table : Nat → Nat → Int32) (s_self s_grammar s_table s_p0 : Nat → Nat → Int32) (v2 : Int32) (kb : (Nat → Nat → Int32) → (Nat → Nat → Int32) → Int32 → Option ((Nat → Nat → Int32) × (Nat → Nat → Int32))) (hkb : ∀ (s_self s_table : Nat → Nat → Int32) (v2 : Int32), kb s_self s_table v2 = some (f_self, f_table) → Gd p l e rm_Ch_catchUp s m args below meth c 0 0 (MQ below (sq D classes (tyK K) none [wd_Ch K a_self (a_grammar 0) (a_table 0) f_self, wd_Gr K a_grammar s_grammar, wd_Tt K a_table f_table, wd_Sy K a_p0 n_p0 s_p0] A) args s 0 0 A) D classes A 4 25 [wd_Ch K a_self (a_grammar 0) (a_table 0) s_self, wd_Gr K a_grammar s_grammar, wd_Tt K a_table s_table, wd_Sy K a_p0 n_p0 s_p0] [(0, .ref (a_self 0)), (1, .ref (a_p0 0)), (2, .int v2)] []) (kx108 : (Nat → Nat → Int32) → (Nat → Nat → Int32) → Option ((Nat → Nat → Int32) × (Nat → Nat → Int32))) (hkx108 : ∀ (s_self s_table : Nat → Nat → Int32), kx108 s_self s_table = some (f_self, f_table) → Gd p l e rm_Ch_catchUp s m args below meth c 0 0 (MQ below (sq D classes (tyK K) none [wd_Ch K a_self (a_grammar 0) (a_table 0) f_self, wd_Gr K a_grammar s_grammar, wd_Tt K a_table f_table, wd_Sy K a_p0 n_p0 s_p0] A) args s 0 0 A) D classes A 4 108 [wd_Ch K a_self (a_grammar 0) (a_table 0) s_self, wd_Gr K a_grammar s_grammar, wd_Tt K a_table s_table, wd_Sy K a_p0 n_p0 s_p0] [] []) (h : f_Ch_catchUp_64 N n_p0 kb kx108 s_self s_grammar s_table s_p0 v2 = some (f_self, f_table)) : Gd p l e rm_Ch_catchUp s m args below meth c 0 0 (MQ below (sq D classes (tyK K) none [wd_Ch K a_self (a_grammar 0) (a_table 0) f_self, wd_Gr K a_grammar s_grammar, wd_Tt K a_table f_table, wd_Sy K a_p0 n_p0 s_p0] A) args s 0 0 A) D classes A 4 64 [wd_Ch K a_self (a_grammar 0) (a_table 0) s_self, wd_Gr K a_grammar s_grammar, wd_Tt K a_table s_table, wd_Sy K a_p0 n_p0 s_p0] [(0, .ref (a_self 0)), (1, .ref (a_p0 0)), (2, .int v2)] [] := by
  unfold f_Ch_catchUp_64 at h
  refine gd_aload_n X d_Ch_catchUp_64 0 rfl ?_
  refine gd_get X (ci := 3) (C := R_Ch) (T := F_Ch) (N := 12) (v := .ref (a_self 2)) 0 0 rfl rfl rfl (in_Ch _) 3 (by decide) (List.mem_cons_of_mem _ fl_Ch_26) rfl rfl d_Ch_catchUp_65 ?_
  refine gd_iload_n X d_Ch_catchUp_68 2 rfl ?_
  refine gd_aload_n X d_Ch_catchUp_69 1 rfl ?_
  refine gd_iload_n X d_Ch_catchUp_70 2 rfl ?_
  obtain ⟨r_1, hc_2, h⟩ := bd1_e h
  refine gd_pI X (gd_V X (As := [.int v2]) (rest := [.int v2, .ref (a_self 2)]) (c_Sy_at l D K a_p0 n_p0 s_p0 v2 r_1 hc_2) 1 (gi_V ml_Ch_83 u_Sy_at) rfl ⟨rfl, rfl⟩ (by decide +kernel) ⟨by decide, by decide⟩ (ci := 0) rfl rfl rfl rfl rfl rfl (Nat.le_of_ble_eq_true rfl) ⟨Nat.zero_le _, Nat.zero_le _⟩ d_Ch_catchUp_71) [3] rfl rfl ?_
  obtain ⟨hi_3, h⟩ := ck_e h
  obtain ⟨s_self_4, es_self_4, h⟩ := nm_e' h
  refine gd_iast X (w' := [wd_Ch K a_self (a_grammar 0) (a_table 0) s_self_4, wd_Gr K a_grammar s_grammar, wd_Tt K a_table s_table, wd_Sy K a_p0 n_p0 s_p0]) 0 2 0 rfl rfl rfl hi_3 d_Ch_catchUp_74 (by rw [es_self_4]; rfl) ?_
  refine gd_aload_n X d_Ch_catchUp_75 0 rfl ?_
  refine gd_iload_n X d_Ch_catchUp_76 2 rfl ?_
  refine gd_iconst X (v := 1) d_Ch_catchUp_77 (by decide) ?_
  refine gd_iadd X d_Ch_catchUp_78 ?_
  obtain ⟨s_self_5, es_self_5, h⟩ := nm_e' h
  refine gd_put X (ci := 3) (C := R_Ch) (T := F_Ch) (N := 12) (ty := .int) (w' := [wd_Ch K a_self (a_grammar 0) (a_table 0) s_self_5, wd_Gr K a_grammar s_grammar, wd_Tt K a_table s_table, wd_Sy K a_p0 n_p0 s_p0]) 0 0 rfl rfl rfl (in_Ch _) t_Ch t_Ch_ok n_Ch 4 (by decide) (List.mem_cons_of_mem _ fl_Ch_75) rfl rfl (by decide +kernel) rfl rfl (Nat.le_of_ble_eq_true rfl) d_Ch_catchUp_79 (by rw [es_self_5]; rfl) ?_
  refine gd_iload_n X d_Ch_catchUp_82 2 rfl ?_
  refine gd_istore_n X (lv' := [(3, .int v2), (0, .ref (a_self 0)), (1, .ref (a_p0 0)), (2, .int v2)]) d_Ch_catchUp_83 rfl (by decide) rfl ?_
  refine gd_loc (lv' := [(0, .ref (a_self 0)), (1, .ref (a_p0 0)), (2, .int v2), (3, .int v2)]) [1, 2, 3, 0] rfl ?_
  exact tl_Ch_catchUp_84 a_self a_grammar a_table a_p0 n_p0 X hr hlk N f_self f_table s_grammar s_p0 v2 (fun s_self s_table => f_Ch_catchUp_102 N n_p0 kb kx108 s_self s_grammar s_table s_p0 v2) (fun s_self s_table h => t_Ch_catchUp_102 a_self a_grammar a_table a_p0 n_p0 X hr hlk N f_self f_table s_self s_grammar s_table s_p0 v2 kb hkb kx108 hkx108 h) N s_self_5 s_table v2 h
def f_Ch_catchUp_25 (N : Nat) (n_p0 : Nat) (kb : (Nat → Nat → Int32) → (Nat → Nat → Int32) → Int32 → Option ((Nat → Nat → Int32) × (Nat → Nat → Int32))) (kx108 : (Nat → Nat → Int32) → (Nat → Nat → Int32) → Option ((Nat → Nat → Int32) × (Nat → Nat → Int32))) (s_self s_grammar s_table s_p0 : Nat → Nat → Int32) (v2 : Int32) : Option ((Nat → Nat → Int32) × (Nat → Nat → Int32)) :=
  if (s_p0 0 1) ≤ v2 then
    kx108 s_self s_table
  else
    if 12 ≤ v2 then
      kx108 s_self s_table
    else
      if (s_self 0 4) ≤ v2 then
        f_Ch_catchUp_64 N n_p0 kb kx108 s_self s_grammar s_table s_p0 v2
      else
        ck v2 12 <|
        bd1 (m_Sy_at n_p0 s_p0 v2) fun r_5 =>
        if (s_self 2 (Int32.toNatClampNeg v2)) = r_5 then
          f_Ch_catchUp_102 N n_p0 kb kx108 s_self s_grammar s_table s_p0 v2
        else
          f_Ch_catchUp_64 N n_p0 kb kx108 s_self s_grammar s_table s_p0 v2
set_option maxHeartbeats 4000000 in
set_option maxRecDepth 100000 in
theorem t_Ch_catchUp_25 {p : Program} {l : Launch} {e : Env} {s : State} {m : MethodId} {args : Array Value} {below : List Frame} {meth : Method} {c : Code} {A : Nat → Prop} {D : va_G} {K : Nat → ClassId} (a_self a_grammar a_table a_p0 : Nat → Nat) (n_p0 : Nat) (X : gx p s m args c b_Ch_catchUp 4 R_Ch w_Ch_catchUp D classes (tyK K) A) (hr : meth.sig.returnType = none) (hlk : meth.locks = false) (N : Nat) (f_self f_table : Nat → Nat → Int32) (s_self s_grammar s_table s_p0 : Nat → Nat → Int32) (v2 : Int32) (kb : (Nat → Nat → Int32) → (Nat → Nat → Int32) → Int32 → Option ((Nat → Nat → Int32) × (Nat → Nat → Int32))) (hkb : ∀ (s_self s_table : Nat → Nat → Int32) (v2 : Int32), kb s_self s_table v2 = some (f_self, f_table) → Gd p l e rm_Ch_catchUp s m args below meth c 0 0 (MQ below (sq D classes (tyK K) none [wd_Ch K a_self (a_grammar 0) (a_table 0) f_self, wd_Gr K a_grammar s_grammar, wd_Tt K a_table f_table, wd_Sy K a_p0 n_p0 s_p0] A) args s 0 0 A) D classes A 4 25 [wd_Ch K a_self (a_grammar 0) (a_table 0) s_self, wd_Gr K a_grammar s_grammar, wd_Tt K a_table s_table, wd_Sy K a_p0 n_p0 s_p0] [(0, .ref (a_self 0)), (1, .ref (a_p0 0)), (2, .int v2)] []) (kx108 : (Nat → Nat → Int32) → (Nat → Nat → Int32) → Option ((Nat → Nat → Int32) × (Nat → Nat → Int32))) (hkx108 : ∀ (s_self s_table : Nat → Nat → Int32), kx108 s_self s_table = some (f_self, f_table) → Gd p l e rm_Ch_catchUp s m args below meth c 0 0 (MQ below (sq D classes (tyK K) none [wd_Ch K a_self (a_grammar 0) (a_table 0) f_self, wd_Gr K a_grammar s_grammar, wd_Tt K a_table f_table, wd_Sy K a_p0 n_p0 s_p0] A) args s 0 0 A) D classes A 4 108 [wd_Ch K a_self (a_grammar 0) (a_table 0) s_self, wd_Gr K a_grammar s_grammar, wd_Tt K a_table s_table, wd_Sy K a_p0 n_p0 s_p0] [] []) (h : f_Ch_catchUp_25 N n_p0 kb kx108 s_self s_grammar s_table s_p0 v2 = some (f_self, f_table)) : Gd p l e rm_Ch_catchUp s m args below meth c 0 0 (MQ below (sq D classes (tyK K) none [wd_Ch K a_self (a_grammar 0) (a_table 0) f_self, wd_Gr K a_grammar s_grammar, wd_Tt K a_table f_table, wd_Sy K a_p0 n_p0 s_p0] A) args s 0 0 A) D classes A 4 25 [wd_Ch K a_self (a_grammar 0) (a_table 0) s_self, wd_Gr K a_grammar s_grammar, wd_Tt K a_table s_table, wd_Sy K a_p0 n_p0 s_p0] [(0, .ref (a_self 0)), (1, .ref (a_p0 0)), (2, .int v2)] [] := by
  unfold f_Ch_catchUp_25 at h
  refine gd_iload_n X d_Ch_catchUp_25 2 rfl ?_
  refine gd_aload_n X d_Ch_catchUp_26 1 rfl ?_
  refine gd_get X (ci := 0) (C := R_Sy) (T := F_Sy) (N := 2) (v := .int (s_p0 0 1)) 3 0 rfl rfl rfl (in_Sy _) 1 (by decide) (List.mem_cons_of_mem _ fl_Ch_78) rfl rfl d_Ch_catchUp_27 ?_
  refine gd_icmp_ge X (tgt := 108) d_Ch_catchUp_30 (by decide) (fun c_1 => ?_) (fun c_1 => ?_)
  · replace h := it_p c_1 h
    refine gd_loc (lv' := []) [] rfl ?_
    exact hkx108 s_self s_table h
  · replace h := it_n c_1 h
    refine gd_iload_n X d_Ch_catchUp_33 2 rfl ?_
    refine gd_bipush X (v := 12) d_Ch_catchUp_34 (by decide) ?_
    refine gd_icmp_ge X (tgt := 108) d_Ch_catchUp_36 (by decide) (fun c_2 => ?_) (fun c_2 => ?_)
    · replace h := it_p c_2 h
      refine gd_loc (lv' := []) [] rfl ?_
      exact hkx108 s_self s_table h
    · replace h := it_n c_2 h
      refine gd_iload_n X d_Ch_catchUp_39 2 rfl ?_
      refine gd_aload_n X d_Ch_catchUp_40 0 rfl ?_
      refine gd_get X (ci := 3) (C := R_Ch) (T := F_Ch) (N := 12) (v := .int (s_self 0 4)) 0 0 rfl rfl rfl (in_Ch _) 4 (by decide) (List.mem_cons_of_mem _ fl_Ch_75) rfl rfl d_Ch_catchUp_41 ?_
      refine gd_icmp_ge X (tgt := 64) d_Ch_catchUp_44 (by decide) (fun c_3 => ?_) (fun c_3 => ?_)
      · replace h := it_p c_3 h
        exact t_Ch_catchUp_64 a_self a_grammar a_table a_p0 n_p0 X hr hlk N f_self f_table s_self s_grammar s_table s_p0 v2 kb hkb kx108 hkx108 h
      · replace h := it_n c_3 h
        refine gd_aload_n X d_Ch_catchUp_47 0 rfl ?_
        refine gd_get X (ci := 3) (C := R_Ch) (T := F_Ch) (N := 12) (v := .ref (a_self 2)) 0 0 rfl rfl rfl (in_Ch _) 3 (by decide) (List.mem_cons_of_mem _ fl_Ch_26) rfl rfl d_Ch_catchUp_48 ?_
        refine gd_iload_n X d_Ch_catchUp_51 2 rfl ?_
        obtain ⟨hi_4, h⟩ := ck_e h
        refine gd_iald X 0 2 0 rfl rfl rfl hi_4 d_Ch_catchUp_52 ?_
        refine gd_aload_n X d_Ch_catchUp_53 1 rfl ?_
        refine gd_iload_n X d_Ch_catchUp_54 2 rfl ?_
        obtain ⟨r_5, hc_6, h⟩ := bd1_e h
        refine gd_pI X (gd_V X (As := [.int v2]) (rest := [.int (s_self 2 (Int32.toNatClampNeg v2))]) (c_Sy_at l D K a_p0 n_p0 s_p0 v2 r_5 hc_6) 1 (gi_V ml_Ch_83 u_Sy_at) rfl ⟨rfl, rfl⟩ (by decide +kernel) ⟨by decide, by decide⟩ (ci := 0) rfl rfl rfl rfl rfl rfl (Nat.le_of_ble_eq_true rfl) ⟨Nat.zero_le _, Nat.zero_le _⟩ d_Ch_catchUp_55) [3] rfl rfl ?_
        refine gd_icmp_ne X (tgt := 64) d_Ch_catchUp_58 (by decide) (fun c_7 => ?_) (fun c_7 => ?_)
        · replace h := it_n c_7 h
          exact t_Ch_catchUp_64 a_self a_grammar a_table a_p0 n_p0 X hr hlk N f_self f_table s_self s_grammar s_table s_p0 v2 kb hkb kx108 hkx108 h
        · replace h := it_p c_7 h
          refine gd_goto X (tgt := 102) d_Ch_catchUp_61 (by decide) ?_
          exact t_Ch_catchUp_102 a_self a_grammar a_table a_p0 n_p0 X hr hlk N f_self f_table s_self s_grammar s_table s_p0 v2 kb hkb kx108 hkx108 h
def f_Ch_catchUp_108 (N : Nat) (n_p0 : Nat) (s_self s_grammar s_table s_p0 : Nat → Nat → Int32) : Option ((Nat → Nat → Int32) × (Nat → Nat → Int32)) :=
  some (s_self, s_table)
set_option maxHeartbeats 4000000 in
set_option maxRecDepth 100000 in
theorem t_Ch_catchUp_108 {p : Program} {l : Launch} {e : Env} {s : State} {m : MethodId} {args : Array Value} {below : List Frame} {meth : Method} {c : Code} {A : Nat → Prop} {D : va_G} {K : Nat → ClassId} (a_self a_grammar a_table a_p0 : Nat → Nat) (n_p0 : Nat) (X : gx p s m args c b_Ch_catchUp 4 R_Ch w_Ch_catchUp D classes (tyK K) A) (hr : meth.sig.returnType = none) (hlk : meth.locks = false) (N : Nat) (f_self f_table : Nat → Nat → Int32) (s_self s_grammar s_table s_p0 : Nat → Nat → Int32) (h : f_Ch_catchUp_108 N n_p0 s_self s_grammar s_table s_p0 = some (f_self, f_table)) : Gd p l e rm_Ch_catchUp s m args below meth c 0 0 (MQ below (sq D classes (tyK K) none [wd_Ch K a_self (a_grammar 0) (a_table 0) f_self, wd_Gr K a_grammar s_grammar, wd_Tt K a_table f_table, wd_Sy K a_p0 n_p0 s_p0] A) args s 0 0 A) D classes A 4 108 [wd_Ch K a_self (a_grammar 0) (a_table 0) s_self, wd_Gr K a_grammar s_grammar, wd_Tt K a_table s_table, wd_Sy K a_p0 n_p0 s_p0] [] [] := by
  unfold f_Ch_catchUp_108 at h
  cases h
  exact gd_vret X hr hlk d_Ch_catchUp_108
def l_Ch_catchUp_25 (N : Nat) (n_p0 : Nat) (s_grammar s_p0 : Nat → Nat → Int32) (kx108 : (Nat → Nat → Int32) → (Nat → Nat → Int32) → Option ((Nat → Nat → Int32) × (Nat → Nat → Int32))) : Nat → (Nat → Nat → Int32) → (Nat → Nat → Int32) → Int32 → Option ((Nat → Nat → Int32) × (Nat → Nat → Int32))
  | 0, _, _, _ => none
  | n + 1, s_self, s_table, v2 => f_Ch_catchUp_25 N n_p0 (l_Ch_catchUp_25 N n_p0 s_grammar s_p0 kx108 n) kx108 s_self s_grammar s_table s_p0 v2
set_option maxHeartbeats 4000000 in
set_option maxRecDepth 100000 in
theorem tl_Ch_catchUp_25 {p : Program} {l : Launch} {e : Env} {s : State} {m : MethodId} {args : Array Value} {below : List Frame} {meth : Method} {c : Code} {A : Nat → Prop} {D : va_G} {K : Nat → ClassId} (a_self a_grammar a_table a_p0 : Nat → Nat) (n_p0 : Nat) (X : gx p s m args c b_Ch_catchUp 4 R_Ch w_Ch_catchUp D classes (tyK K) A) (hr : meth.sig.returnType = none) (hlk : meth.locks = false) (N : Nat) (f_self f_table : Nat → Nat → Int32) (s_grammar s_p0 : Nat → Nat → Int32) (kx108 : (Nat → Nat → Int32) → (Nat → Nat → Int32) → Option ((Nat → Nat → Int32) × (Nat → Nat → Int32))) (hkx108 : ∀ (s_self s_table : Nat → Nat → Int32), kx108 s_self s_table = some (f_self, f_table) → Gd p l e rm_Ch_catchUp s m args below meth c 0 0 (MQ below (sq D classes (tyK K) none [wd_Ch K a_self (a_grammar 0) (a_table 0) f_self, wd_Gr K a_grammar s_grammar, wd_Tt K a_table f_table, wd_Sy K a_p0 n_p0 s_p0] A) args s 0 0 A) D classes A 4 108 [wd_Ch K a_self (a_grammar 0) (a_table 0) s_self, wd_Gr K a_grammar s_grammar, wd_Tt K a_table s_table, wd_Sy K a_p0 n_p0 s_p0] [] []) : ∀ (n : Nat) (s_self s_table : Nat → Nat → Int32) (v2 : Int32), l_Ch_catchUp_25 N n_p0 s_grammar s_p0 kx108 n s_self s_table v2 = some (f_self, f_table) → Gd p l e rm_Ch_catchUp s m args below meth c 0 0 (MQ below (sq D classes (tyK K) none [wd_Ch K a_self (a_grammar 0) (a_table 0) f_self, wd_Gr K a_grammar s_grammar, wd_Tt K a_table f_table, wd_Sy K a_p0 n_p0 s_p0] A) args s 0 0 A) D classes A 4 25 [wd_Ch K a_self (a_grammar 0) (a_table 0) s_self, wd_Gr K a_grammar s_grammar, wd_Tt K a_table s_table, wd_Sy K a_p0 n_p0 s_p0] [(0, .ref (a_self 0)), (1, .ref (a_p0 0)), (2, .int v2)] [] := by
  intro n
  induction n with
  | zero => intro s_self s_table v2 h; have h : (none : Option ((Nat → Nat → Int32) × (Nat → Nat → Int32))) = some _ := h; cases h
  | succ n ih =>
    intro s_self s_table v2 h
    exact t_Ch_catchUp_25 a_self a_grammar a_table a_p0 n_p0 X hr hlk N f_self f_table s_self s_grammar s_table s_p0 v2 (l_Ch_catchUp_25 N n_p0 s_grammar s_p0 kx108 n) ih kx108 hkx108 h
def f_Ch_catchUp_0 (N : Nat) (n_p0 : Nat) (s_self s_grammar s_table s_p0 : Nat → Nat → Int32) : Option ((Nat → Nat → Int32) × (Nat → Nat → Int32)) :=
  if (s_grammar 0 2) ≤ (s_self 0 5) then
    l_Ch_catchUp_25 N n_p0 s_grammar s_p0 (fun s_self s_table => f_Ch_catchUp_108 N n_p0 s_self s_grammar s_table s_p0) N s_self s_table 0
  else
    bd1 (m_Ch_seeRules N s_self s_grammar) fun s_self_2 =>
    nm (st2 s_self_2 0 4 0) fun s_self_4 =>
    l_Ch_catchUp_25 N n_p0 s_grammar s_p0 (fun s_self s_table => f_Ch_catchUp_108 N n_p0 s_self s_grammar s_table s_p0) N s_self_4 s_table 0
set_option maxHeartbeats 4000000 in
set_option maxRecDepth 100000 in
theorem t_Ch_catchUp_0 {p : Program} {l : Launch} {e : Env} {s : State} {m : MethodId} {args : Array Value} {below : List Frame} {meth : Method} {c : Code} {A : Nat → Prop} {D : va_G} {K : Nat → ClassId} (a_self a_grammar a_table a_p0 : Nat → Nat) (n_p0 : Nat) (X : gx p s m args c b_Ch_catchUp 4 R_Ch w_Ch_catchUp D classes (tyK K) A) (hr : meth.sig.returnType = none) (hlk : meth.locks = false) (N : Nat) (f_self f_table : Nat → Nat → Int32) (s_self s_grammar s_table s_p0 : Nat → Nat → Int32) (h : f_Ch_catchUp_0 N n_p0 s_self s_grammar s_table s_p0 = some (f_self, f_table)) : Gd p l e rm_Ch_catchUp s m args below meth c 0 0 (MQ below (sq D classes (tyK K) none [wd_Ch K a_self (a_grammar 0) (a_table 0) f_self, wd_Gr K a_grammar s_grammar, wd_Tt K a_table f_table, wd_Sy K a_p0 n_p0 s_p0] A) args s 0 0 A) D classes A 4 0 [wd_Ch K a_self (a_grammar 0) (a_table 0) s_self, wd_Gr K a_grammar s_grammar, wd_Tt K a_table s_table, wd_Sy K a_p0 n_p0 s_p0] [(0, .ref (a_self 0)), (1, .ref (a_p0 0))] [] := by
  unfold f_Ch_catchUp_0 at h
  refine gd_aload_n X d_Ch_catchUp_0 0 rfl ?_
  refine gd_get X (ci := 3) (C := R_Ch) (T := F_Ch) (N := 12) (v := .int (s_self 0 5)) 0 0 rfl rfl rfl (in_Ch _) 5 (by decide) (List.mem_cons_of_mem _ fl_Ch_63) rfl rfl d_Ch_catchUp_1 ?_
  refine gd_aload_n X d_Ch_catchUp_4 0 rfl ?_
  refine gd_get X (ci := 3) (C := R_Ch) (T := F_Ch) (N := 12) (v := .ref (a_grammar 0)) 0 0 rfl rfl rfl (in_Ch _) 0 (by decide) (List.mem_cons_of_mem _ fl_Ch_9) rfl rfl d_Ch_catchUp_5 ?_
  refine gd_get X (ci := 1) (C := R_Gr) (T := F_Gr) (N := 12) (v := .int (s_grammar 0 2)) 1 0 rfl rfl rfl (in_Gr _) 2 (by decide) (List.mem_cons_of_mem _ fl_Ch_67) rfl rfl d_Ch_catchUp_8 ?_
  refine gd_icmp_ge X (tgt := 23) d_Ch_catchUp_11 (by decide) (fun c_1 => ?_) (fun c_1 => ?_)
  · replace h := it_p c_1 h
    refine gd_iconst X (v := 0) d_Ch_catchUp_23 (by decide) ?_
    refine gd_istore_n X (lv' := [(2, .int 0), (0, .ref (a_self 0)), (1, .ref (a_p0 0))]) d_Ch_catchUp_24 rfl (by decide) rfl ?_
    refine gd_loc (lv' := [(0, .ref (a_self 0)), (1, .ref (a_p0 0)), (2, .int 0)]) [1, 2, 0] rfl ?_
    exact tl_Ch_catchUp_25 a_self a_grammar a_table a_p0 n_p0 X hr hlk N f_self f_table s_grammar s_p0 (fun s_self s_table => f_Ch_catchUp_108 N n_p0 s_self s_grammar s_table s_p0) (fun s_self s_table h => t_Ch_catchUp_108 a_self a_grammar a_table a_p0 n_p0 X hr hlk N f_self f_table s_self s_grammar s_table s_p0 h) N s_self s_table 0 h
  · replace h := it_n c_1 h
    refine gd_aload_n X d_Ch_catchUp_14 0 rfl ?_
    obtain ⟨s_self_2, hc_3, h⟩ := bd1_e h
    refine gd_cv X (gd_V X (As := []) (rest := []) (c_Ch_seeRules l D K a_self a_grammar a_table N s_self s_grammar s_self_2 hc_3) 0 (gi_V ml_Ch_72 u_Ch_seeRules) rfl ⟨rfl, rfl⟩ (by decide +kernel) ⟨by decide, by decide⟩ (ci := 3) rfl rfl rfl rfl rfl rfl (Nat.le_of_ble_eq_true rfl) ⟨Nat.zero_le _, Nat.zero_le _⟩ d_Ch_catchUp_15) (w2 := [wd_Ch K a_self (a_grammar 0) (a_table 0) s_self_2, wd_Gr K a_grammar s_grammar, wd_Tt K a_table s_table, wd_Sy K a_p0 n_p0 s_p0]) [0, 1] [2, 3] rfl rfl rfl rfl ⟨rfl, rfl⟩ rfl ?_
    refine gd_aload_n X d_Ch_catchUp_18 0 rfl ?_
    refine gd_iconst X (v := 0) d_Ch_catchUp_19 (by decide) ?_
    obtain ⟨s_self_4, es_self_4, h⟩ := nm_e' h
    refine gd_put X (ci := 3) (C := R_Ch) (T := F_Ch) (N := 12) (ty := .int) (w' := [wd_Ch K a_self (a_grammar 0) (a_table 0) s_self_4, wd_Gr K a_grammar s_grammar, wd_Tt K a_table s_table, wd_Sy K a_p0 n_p0 s_p0]) 0 0 rfl rfl rfl (in_Ch _) t_Ch t_Ch_ok n_Ch 4 (by decide) (List.mem_cons_of_mem _ fl_Ch_75) rfl rfl (by decide +kernel) rfl rfl (Nat.le_of_ble_eq_true rfl) d_Ch_catchUp_20 (by rw [es_self_4]; rfl) ?_
    refine gd_iconst X (v := 0) d_Ch_catchUp_23 (by decide) ?_
    refine gd_istore_n X (lv' := [(2, .int 0), (0, .ref (a_self 0)), (1, .ref (a_p0 0))]) d_Ch_catchUp_24 rfl (by decide) rfl ?_
    refine gd_loc (lv' := [(0, .ref (a_self 0)), (1, .ref (a_p0 0)), (2, .int 0)]) [1, 2, 0] rfl ?_
    exact tl_Ch_catchUp_25 a_self a_grammar a_table a_p0 n_p0 X hr hlk N f_self f_table s_grammar s_p0 (fun s_self s_table => f_Ch_catchUp_108 N n_p0 s_self s_grammar s_table s_p0) (fun s_self s_table h => t_Ch_catchUp_108 a_self a_grammar a_table a_p0 n_p0 X hr hlk N f_self f_table s_self s_grammar s_table s_p0 h) N s_self_4 s_table 0 h
def m_Ch_catchUp (N : Nat) (n_p0 : Nat) (s_self s_grammar s_table s_p0 : Nat → Nat → Int32) : Option ((Nat → Nat → Int32) × (Nat → Nat → Int32)) := f_Ch_catchUp_0 N n_p0 s_self s_grammar s_table s_p0
set_option maxHeartbeats 4000000 in
set_option maxRecDepth 100000 in
theorem c_Ch_catchUp (l : Launch) (D : va_G) (K : Nat → ClassId) (a_self a_grammar a_table a_p0 : Nat → Nat) (n_p0 : Nat) (N : Nat) (s_self s_grammar s_table s_p0 : Nat → Nat → Int32) (f_self f_table : Nat → Nat → Int32) (h : m_Ch_catchUp N n_p0 s_self s_grammar s_table s_p0 = some (f_self, f_table)) : SMet l y_Ch_catchUp w_Ch_catchUp rm_Ch_catchUp D classes (tyK K) [.ref (a_self 0), .ref (a_p0 0)] none [wd_Ch K a_self (a_grammar 0) (a_table 0) s_self, wd_Gr K a_grammar s_grammar, wd_Tt K a_table s_table, wd_Sy K a_p0 n_p0 s_p0] [wd_Ch K a_self (a_grammar 0) (a_table 0) f_self, wd_Gr K a_grammar s_grammar, wd_Tt K a_table f_table, wd_Sy K a_p0 n_p0 s_p0] := by
  refine sm_of R_Ch (by decide) rfl rfl (Nat.le_of_ble_eq_true rfl) ?_
  intro p e s m below meth c A X hr hlk
  refine gd_loc (lv' := [(0, .ref (a_self 0)), (1, .ref (a_p0 0))]) [0, 1] rfl ?_
  exact t_Ch_catchUp_0 a_self a_grammar a_table a_p0 n_p0 X hr hlk N f_self f_table s_self s_grammar s_table s_p0 h
abbrev b_Gw_joinWaiting : ByteArray := prog_4_method_7_code
def y_Gw_joinWaiting : MethodName := ⟨R_Gw, "joinWaiting", "(I)Z"⟩
def w_Gw_joinWaiting : List Cond := .code y_Gw_joinWaiting b_Gw_joinWaiting 4 (some .boolean) :: TB
theorem k_Gw_joinWaiting : Cond.code y_Gw_joinWaiting b_Gw_joinWaiting 4 (some .boolean) ∈ TB := tb_of 631 (by decide +kernel) (by decide +kernel)
theorem d_Gw_joinWaiting_0 : decode b_Gw_joinWaiting 0 = .ok (.iload_n 1, 1) := by decide +kernel
theorem d_Gw_joinWaiting_1 : decode b_Gw_joinWaiting 1 = .ok (.ifCond .lt 20, 3) := by decide +kernel
theorem d_Gw_joinWaiting_4 : decode b_Gw_joinWaiting 4 = .ok (.iload_n 1, 1) := by decide +kernel
theorem d_Gw_joinWaiting_5 : decode b_Gw_joinWaiting 5 = .ok (.aload_n 0, 1) := by decide +kernel
theorem d_Gw_joinWaiting_6 : decode b_Gw_joinWaiting 6 = .ok (.getfield 76, 3) := by decide +kernel
theorem d_Gw_joinWaiting_9 : decode b_Gw_joinWaiting 9 = .ok (.if_icmp .ge 12, 3) := by decide +kernel
theorem d_Gw_joinWaiting_12 : decode b_Gw_joinWaiting 12 = .ok (.aload_n 0, 1) := by decide +kernel
theorem d_Gw_joinWaiting_13 : decode b_Gw_joinWaiting 13 = .ok (.getfield 76, 3) := by decide +kernel
theorem d_Gw_joinWaiting_16 : decode b_Gw_joinWaiting 16 = .ok (.bipush 12, 2) := by decide +kernel
theorem d_Gw_joinWaiting_18 : decode b_Gw_joinWaiting 18 = .ok (.if_icmp .le 5, 3) := by decide +kernel
theorem d_Gw_joinWaiting_21 : decode b_Gw_joinWaiting 21 = .ok (.iconst 0, 1) := by decide +kernel
theorem d_Gw_joinWaiting_22 : decode b_Gw_joinWaiting 22 = .ok (.ireturn, 1) := by decide +kernel
theorem d_Gw_joinWaiting_23 : decode b_Gw_joinWaiting 23 = .ok (.iload_n 1, 1) := by decide +kernel
theorem d_Gw_joinWaiting_24 : decode b_Gw_joinWaiting 24 = .ok (.aload_n 0, 1) := by decide +kernel
theorem d_Gw_joinWaiting_25 : decode b_Gw_joinWaiting 25 = .ok (.getfield 76, 3) := by decide +kernel
theorem d_Gw_joinWaiting_28 : decode b_Gw_joinWaiting 28 = .ok (.iconst 1, 1) := by decide +kernel
theorem d_Gw_joinWaiting_29 : decode b_Gw_joinWaiting 29 = .ok (.isub, 1) := by decide +kernel
theorem d_Gw_joinWaiting_30 : decode b_Gw_joinWaiting 30 = .ok (.if_icmp .ne 13, 3) := by decide +kernel
theorem d_Gw_joinWaiting_33 : decode b_Gw_joinWaiting 33 = .ok (.aload_n 0, 1) := by decide +kernel
theorem d_Gw_joinWaiting_34 : decode b_Gw_joinWaiting 34 = .ok (.getfield 24, 3) := by decide +kernel
theorem d_Gw_joinWaiting_37 : decode b_Gw_joinWaiting 37 = .ok (.getfield 46, 3) := by decide +kernel
theorem d_Gw_joinWaiting_40 : decode b_Gw_joinWaiting 40 = .ok (.goto 11, 3) := by decide +kernel
theorem d_Gw_joinWaiting_43 : decode b_Gw_joinWaiting 43 = .ok (.aload_n 0, 1) := by decide +kernel
theorem d_Gw_joinWaiting_44 : decode b_Gw_joinWaiting 44 = .ok (.getfield 28, 3) := by decide +kernel
theorem d_Gw_joinWaiting_47 : decode b_Gw_joinWaiting 47 = .ok (.iload_n 1, 1) := by decide +kernel
theorem d_Gw_joinWaiting_48 : decode b_Gw_joinWaiting 48 = .ok (.iconst 1, 1) := by decide +kernel
theorem d_Gw_joinWaiting_49 : decode b_Gw_joinWaiting 49 = .ok (.iadd, 1) := by decide +kernel
theorem d_Gw_joinWaiting_50 : decode b_Gw_joinWaiting 50 = .ok (.iaload, 1) := by decide +kernel
theorem d_Gw_joinWaiting_51 : decode b_Gw_joinWaiting 51 = .ok (.istore_n 2, 1) := by decide +kernel
theorem d_Gw_joinWaiting_52 : decode b_Gw_joinWaiting 52 = .ok (.aload_n 0, 1) := by decide +kernel
theorem d_Gw_joinWaiting_53 : decode b_Gw_joinWaiting 53 = .ok (.getfield 28, 3) := by decide +kernel
theorem d_Gw_joinWaiting_56 : decode b_Gw_joinWaiting 56 = .ok (.iload_n 1, 1) := by decide +kernel
theorem d_Gw_joinWaiting_57 : decode b_Gw_joinWaiting 57 = .ok (.iaload, 1) := by decide +kernel
theorem d_Gw_joinWaiting_58 : decode b_Gw_joinWaiting 58 = .ok (.istore_n 3, 1) := by decide +kernel
theorem d_Gw_joinWaiting_59 : decode b_Gw_joinWaiting 59 = .ok (.iload_n 3, 1) := by decide +kernel
theorem d_Gw_joinWaiting_60 : decode b_Gw_joinWaiting 60 = .ok (.iload_n 2, 1) := by decide +kernel
theorem d_Gw_joinWaiting_61 : decode b_Gw_joinWaiting 61 = .ok (.if_icmp .ge 29, 3) := by decide +kernel
theorem d_Gw_joinWaiting_64 : decode b_Gw_joinWaiting 64 = .ok (.aload_n 0, 1) := by decide +kernel
theorem d_Gw_joinWaiting_65 : decode b_Gw_joinWaiting 65 = .ok (.getfield 31, 3) := by decide +kernel
theorem d_Gw_joinWaiting_68 : decode b_Gw_joinWaiting 68 = .ok (.aload_n 0, 1) := by decide +kernel
theorem d_Gw_joinWaiting_69 : decode b_Gw_joinWaiting 69 = .ok (.getfield 24, 3) := by decide +kernel
theorem d_Gw_joinWaiting_72 : decode b_Gw_joinWaiting 72 = .ok (.iload_n 3, 1) := by decide +kernel
theorem d_Gw_joinWaiting_73 : decode b_Gw_joinWaiting 73 = .ok (.invokevirtual 49, 3) := by decide +kernel
theorem d_Gw_joinWaiting_76 : decode b_Gw_joinWaiting 76 = .ok (.invokevirtual 79, 3) := by decide +kernel
theorem d_Gw_joinWaiting_79 : decode b_Gw_joinWaiting 79 = .ok (.ifCond .ne 5, 3) := by decide +kernel
theorem d_Gw_joinWaiting_82 : decode b_Gw_joinWaiting 82 = .ok (.iconst 0, 1) := by decide +kernel
theorem d_Gw_joinWaiting_83 : decode b_Gw_joinWaiting 83 = .ok (.ireturn, 1) := by decide +kernel
theorem d_Gw_joinWaiting_84 : decode b_Gw_joinWaiting 84 = .ok (.iinc 3 1, 3) := by decide +kernel
theorem d_Gw_joinWaiting_87 : decode b_Gw_joinWaiting 87 = .ok (.goto (-28), 3) := by decide +kernel
theorem d_Gw_joinWaiting_90 : decode b_Gw_joinWaiting 90 = .ok (.iconst 1, 1) := by decide +kernel
theorem d_Gw_joinWaiting_91 : decode b_Gw_joinWaiting 91 = .ok (.ireturn, 1) := by decide +kernel
theorem fl_Gw_31 : Cond.fieldLink R_Gw 31 "RuleTrees$Grower" "joined" "LRuleTrees$Symbols;" ∈ TB := tb_of 228 (by decide +kernel) (by decide +kernel)
theorem fl_Gw_24 : Cond.fieldLink R_Gw 24 "RuleTrees$Grower" "grown" "LRuleTrees$Symbols;" ∈ TB := tb_of 224 (by decide +kernel) (by decide +kernel)
theorem ml_Gw_49 : Cond.methodLink R_Gw 49 ⟨"RuleTrees$Symbols", "at", "(I)I"⟩ ∈ TB := tb_of 606 (by decide +kernel) (by decide +kernel)
theorem ml_Gw_79 : Cond.methodLink R_Gw 79 ⟨"RuleTrees$Symbols", "append", "(I)Z"⟩ ∈ TB := tb_of 620 (by decide +kernel) (by decide +kernel)
theorem fl_Gw_76 : Cond.fieldLink R_Gw 76 "RuleTrees$Grower" "waiting" "I" ∈ TB := tb_of 227 (by decide +kernel) (by decide +kernel)
theorem fl_Gw_28 : Cond.fieldLink R_Gw 28 "RuleTrees$Grower" "starts" "[I" ∈ TB := tb_of 226 (by decide +kernel) (by decide +kernel)
theorem fl_Gw_46 : Cond.fieldLink R_Gw 46 "RuleTrees$Symbols" "length" "I" ∈ TB := tb_of 214 (by decide +kernel) (by decide +kernel)
abbrev rm_Gw_joinWaiting : Room := { frames := 1, cells := 0, slots := 0, locals := 21 }
def f_Gw_joinWaiting_59 (N : Nat) (n_grown : Nat) (n_joined : Nat) (kb : (Nat → Nat → Int32) → Int32 → Option ((Int32) × (Nat → Nat → Int32))) (kx82 : (Nat → Nat → Int32) → Option ((Int32) × (Nat → Nat → Int32))) (kx90 : (Nat → Nat → Int32) → Option ((Int32) × (Nat → Nat → Int32))) (s_self s_grown s_joined : Nat → Nat → Int32) (v2 v3 : Int32) : Option ((Int32) × (Nat → Nat → Int32)) :=
  if v2 ≤ v3 then
    kx90 s_joined
  else
    bd1 (m_Sy_at n_grown s_grown v3) fun r_2 =>
    bd2 (m_Sy_append n_joined s_joined r_2) fun r_4 s_joined_5 =>
    if r_4 = 0 then
      kx82 s_joined_5
    else
      nm (v3 + 1) fun v3_8 =>
      kb s_joined_5 v3_8
set_option maxHeartbeats 4000000 in
set_option maxRecDepth 100000 in
theorem t_Gw_joinWaiting_59 {p : Program} {l : Launch} {e : Env} {s : State} {m : MethodId} {args : Array Value} {below : List Frame} {meth : Method} {c : Code} {A : Nat → Prop} {D : va_G} {K : Nat → ClassId} (a_self a_grammar a_grown a_joined : Nat → Nat) (n_grown : Nat) (n_joined : Nat) (X : gx p s m args c b_Gw_joinWaiting 4 R_Gw w_Gw_joinWaiting D classes (tyK K) A) (hr : meth.sig.returnType = some .boolean) (hlk : meth.locks = false) (N : Nat) (r : Int32) (f_joined : Nat → Nat → Int32) (s_self s_grown s_joined : Nat → Nat → Int32) (v2 v3 : Int32) (kb : (Nat → Nat → Int32) → Int32 → Option ((Int32) × (Nat → Nat → Int32))) (hkb : ∀ (s_joined : Nat → Nat → Int32) (v3 : Int32), kb s_joined v3 = some (r, f_joined) → Gd p l e rm_Gw_joinWaiting s m args below meth c 0 0 (MQ below (sq D classes (tyK K) (some (.int r)) [wd_Gw K a_self (a_grammar 0) (a_grown 0) (a_joined 0) s_self, wd_Sy K a_grown n_grown s_grown, wd_Sy K a_joined n_joined f_joined] A) args s 0 0 A) D classes A 4 59 [wd_Gw K a_self (a_grammar 0) (a_grown 0) (a_joined 0) s_self, wd_Sy K a_grown n_grown s_grown, wd_Sy K a_joined n_joined s_joined] [(0, .ref (a_self 0)), (2, .int v2), (3, .int v3)] []) (kx82 : (Nat → Nat → Int32) → Option ((Int32) × (Nat → Nat → Int32))) (hkx82 : ∀ (s_joined : Nat → Nat → Int32), kx82 s_joined = some (r, f_joined) → Gd p l e rm_Gw_joinWaiting s m args below meth c 0 0 (MQ below (sq D classes (tyK K) (some (.int r)) [wd_Gw K a_self (a_grammar 0) (a_grown 0) (a_joined 0) s_self, wd_Sy K a_grown n_grown s_grown, wd_Sy K a_joined n_joined f_joined] A) args s 0 0 A) D classes A 4 82 [wd_Gw K a_self (a_grammar 0) (a_grown 0) (a_joined 0) s_self, wd_Sy K a_grown n_grown s_grown, wd_Sy K a_joined n_joined s_joined] [] []) (kx90 : (Nat → Nat → Int32) → Option ((Int32) × (Nat → Nat → Int32))) (hkx90 : ∀ (s_joined : Nat → Nat → Int32), kx90 s_joined = some (r, f_joined) → Gd p l e rm_Gw_joinWaiting s m args below meth c 0 0 (MQ below (sq D classes (tyK K) (some (.int r)) [wd_Gw K a_self (a_grammar 0) (a_grown 0) (a_joined 0) s_self, wd_Sy K a_grown n_grown s_grown, wd_Sy K a_joined n_joined f_joined] A) args s 0 0 A) D classes A 4 90 [wd_Gw K a_self (a_grammar 0) (a_grown 0) (a_joined 0) s_self, wd_Sy K a_grown n_grown s_grown, wd_Sy K a_joined n_joined s_joined] [] []) (h : f_Gw_joinWaiting_59 N n_grown n_joined kb kx82 kx90 s_self s_grown s_joined v2 v3 = some (r, f_joined)) : Gd p l e rm_Gw_joinWaiting s m args below meth c 0 0 (MQ below (sq D classes (tyK K) (some (.int r)) [wd_Gw K a_self (a_grammar 0) (a_grown 0) (a_joined 0) s_self, wd_Sy K a_grown n_grown s_grown, wd_Sy K a_joined n_joined f_joined] A) args s 0 0 A) D classes A 4 59 [wd_Gw K a_self (a_grammar 0) (a_grown 0) (a_joined 0) s_self, wd_Sy K a_grown n_grown s_grown, wd_Sy K a_joined n_joined s_joined] [(0, .ref (a_self 0)), (2, .int v2), (3, .int v3)] [] := by
  unfold f_Gw_joinWaiting_59 at h
  refine gd_iload_n X d_Gw_joinWaiting_59 2 rfl ?_
  refine gd_iload_n X d_Gw_joinWaiting_60 1 rfl ?_
  refine gd_icmp_ge X (tgt := 90) d_Gw_joinWaiting_61 (by decide) (fun c_1 => ?_) (fun c_1 => ?_)
  · replace h := it_p c_1 h
    refine gd_loc (lv' := []) [] rfl ?_
    exact hkx90 s_joined h
  · replace h := it_n c_1 h
    refine gd_aload_n X d_Gw_joinWaiting_64 0 rfl ?_
    refine gd_get X (ci := 4) (C := R_Gw) (T := F_Gw) (N := 7) (v := .ref (a_joined 0)) 0 0 rfl rfl rfl (in_Gw _) 5 (by decide) (List.mem_cons_of_mem _ fl_Gw_31) rfl rfl d_Gw_joinWaiting_65 ?_
    refine gd_aload_n X d_Gw_joinWaiting_68 0 rfl ?_
    refine gd_get X (ci := 4) (C := R_Gw) (T := F_Gw) (N := 7) (v := .ref (a_grown 0)) 0 0 rfl rfl rfl (in_Gw _) 2 (by decide) (List.mem_cons_of_mem _ fl_Gw_24) rfl rfl d_Gw_joinWaiting_69 ?_
    refine gd_iload_n X d_Gw_joinWaiting_72 2 rfl ?_
    obtain ⟨r_2, hc_3, h⟩ := bd1_e h
    refine gd_pI X (gd_V X (As := [.int v3]) (rest := [.ref (a_joined 0)]) (c_Sy_at l D K a_grown n_grown s_grown v3 r_2 hc_3) 1 (gi_V ml_Gw_49 u_Sy_at) rfl ⟨rfl, rfl⟩ (by decide +kernel) ⟨by decide, by decide⟩ (ci := 0) rfl rfl rfl rfl rfl rfl (Nat.le_of_ble_eq_true rfl) ⟨Nat.zero_le _, Nat.zero_le _⟩ d_Gw_joinWaiting_73) [1] rfl rfl ?_
    obtain ⟨r_4, s_joined_5, hc_6, h⟩ := bd2_e h
    refine gd_cI X (gd_V X (As := [.int r_2]) (rest := []) (c_Sy_append l D K a_joined n_joined s_joined r_2 r_4 s_joined_5 hc_6) 1 (gi_V ml_Gw_79 u_Sy_append) rfl ⟨rfl, rfl⟩ (by decide +kernel) ⟨by decide, by decide⟩ (ci := 0) rfl rfl rfl rfl rfl rfl (Nat.le_of_ble_eq_true rfl) ⟨Nat.zero_le _, Nat.zero_le _⟩ d_Gw_joinWaiting_76) (w2 := [wd_Gw K a_self (a_grammar 0) (a_grown 0) (a_joined 0) s_self, wd_Sy K a_grown n_grown s_grown, wd_Sy K a_joined n_joined s_joined_5]) [2] [0, 1] rfl rfl rfl rfl ⟨rfl, rfl⟩ rfl ?_
    refine gd_if_ne X (tgt := 84) d_Gw_joinWaiting_79 (by decide) (fun c_7 => ?_) (fun c_7 => ?_)
    · replace h := it_n c_7 h
      obtain ⟨v3_8, ev3_8, h⟩ := nm_e' h
      refine gd_iinc X (v := v3_8) (lv' := [(3, .int v3_8), (0, .ref (a_self 0)), (2, .int v2)]) d_Gw_joinWaiting_84 (k := 2) rfl (by rw [ev3_8]; rfl) (by decide) rfl ?_
      refine gd_goto X (tgt := 59) d_Gw_joinWaiting_87 (by decide) ?_
      refine gd_loc (lv' := [(0, .ref (a_self 0)), (2, .int v2), (3, .int v3_8)]) [1, 2, 0] rfl ?_
      exact hkb s_joined_5 v3_8 h
    · replace h := it_p c_7 h
      refine gd_loc (lv' := []) [] rfl ?_
      exact hkx82 s_joined_5 h
def f_Gw_joinWaiting_82 (N : Nat) (n_grown : Nat) (n_joined : Nat) (s_self s_grown s_joined : Nat → Nat → Int32) : Option ((Int32) × (Nat → Nat → Int32)) :=
  some ((0), s_joined)
set_option maxHeartbeats 4000000 in
set_option maxRecDepth 100000 in
theorem t_Gw_joinWaiting_82 {p : Program} {l : Launch} {e : Env} {s : State} {m : MethodId} {args : Array Value} {below : List Frame} {meth : Method} {c : Code} {A : Nat → Prop} {D : va_G} {K : Nat → ClassId} (a_self a_grammar a_grown a_joined : Nat → Nat) (n_grown : Nat) (n_joined : Nat) (X : gx p s m args c b_Gw_joinWaiting 4 R_Gw w_Gw_joinWaiting D classes (tyK K) A) (hr : meth.sig.returnType = some .boolean) (hlk : meth.locks = false) (N : Nat) (r : Int32) (f_joined : Nat → Nat → Int32) (s_self s_grown s_joined : Nat → Nat → Int32) (h : f_Gw_joinWaiting_82 N n_grown n_joined s_self s_grown s_joined = some (r, f_joined)) : Gd p l e rm_Gw_joinWaiting s m args below meth c 0 0 (MQ below (sq D classes (tyK K) (some (.int r)) [wd_Gw K a_self (a_grammar 0) (a_grown 0) (a_joined 0) s_self, wd_Sy K a_grown n_grown s_grown, wd_Sy K a_joined n_joined f_joined] A) args s 0 0 A) D classes A 4 82 [wd_Gw K a_self (a_grammar 0) (a_grown 0) (a_joined 0) s_self, wd_Sy K a_grown n_grown s_grown, wd_Sy K a_joined n_joined s_joined] [] [] := by
  unfold f_Gw_joinWaiting_82 at h
  refine gd_iconst X (v := 0) d_Gw_joinWaiting_82 (by decide) ?_
  cases h
  exact gd_zret X hr hlk (by decide) d_Gw_joinWaiting_83
def f_Gw_joinWaiting_90 (N : Nat) (n_grown : Nat) (n_joined : Nat) (s_self s_grown s_joined : Nat → Nat → Int32) : Option ((Int32) × (Nat → Nat → Int32)) :=
  some ((1), s_joined)
set_option maxHeartbeats 4000000 in
set_option maxRecDepth 100000 in
theorem t_Gw_joinWaiting_90 {p : Program} {l : Launch} {e : Env} {s : State} {m : MethodId} {args : Array Value} {below : List Frame} {meth : Method} {c : Code} {A : Nat → Prop} {D : va_G} {K : Nat → ClassId} (a_self a_grammar a_grown a_joined : Nat → Nat) (n_grown : Nat) (n_joined : Nat) (X : gx p s m args c b_Gw_joinWaiting 4 R_Gw w_Gw_joinWaiting D classes (tyK K) A) (hr : meth.sig.returnType = some .boolean) (hlk : meth.locks = false) (N : Nat) (r : Int32) (f_joined : Nat → Nat → Int32) (s_self s_grown s_joined : Nat → Nat → Int32) (h : f_Gw_joinWaiting_90 N n_grown n_joined s_self s_grown s_joined = some (r, f_joined)) : Gd p l e rm_Gw_joinWaiting s m args below meth c 0 0 (MQ below (sq D classes (tyK K) (some (.int r)) [wd_Gw K a_self (a_grammar 0) (a_grown 0) (a_joined 0) s_self, wd_Sy K a_grown n_grown s_grown, wd_Sy K a_joined n_joined f_joined] A) args s 0 0 A) D classes A 4 90 [wd_Gw K a_self (a_grammar 0) (a_grown 0) (a_joined 0) s_self, wd_Sy K a_grown n_grown s_grown, wd_Sy K a_joined n_joined s_joined] [] [] := by
  unfold f_Gw_joinWaiting_90 at h
  refine gd_iconst X (v := 1) d_Gw_joinWaiting_90 (by decide) ?_
  cases h
  exact gd_zret X hr hlk (by decide) d_Gw_joinWaiting_91
def l_Gw_joinWaiting_59 (N : Nat) (n_grown : Nat) (n_joined : Nat) (s_self s_grown : Nat → Nat → Int32) (v2 : Int32) (kx82 : (Nat → Nat → Int32) → Option ((Int32) × (Nat → Nat → Int32))) (kx90 : (Nat → Nat → Int32) → Option ((Int32) × (Nat → Nat → Int32))) : Nat → (Nat → Nat → Int32) → Int32 → Option ((Int32) × (Nat → Nat → Int32))
  | 0, _, _ => none
  | n + 1, s_joined, v3 => f_Gw_joinWaiting_59 N n_grown n_joined (l_Gw_joinWaiting_59 N n_grown n_joined s_self s_grown v2 kx82 kx90 n) kx82 kx90 s_self s_grown s_joined v2 v3
set_option maxHeartbeats 4000000 in
set_option maxRecDepth 100000 in
theorem tl_Gw_joinWaiting_59 {p : Program} {l : Launch} {e : Env} {s : State} {m : MethodId} {args : Array Value} {below : List Frame} {meth : Method} {c : Code} {A : Nat → Prop} {D : va_G} {K : Nat → ClassId} (a_self a_grammar a_grown a_joined : Nat → Nat) (n_grown : Nat) (n_joined : Nat) (X : gx p s m args c b_Gw_joinWaiting 4 R_Gw w_Gw_joinWaiting D classes (tyK K) A) (hr : meth.sig.returnType = some .boolean) (hlk : meth.locks = false) (N : Nat) (r : Int32) (f_joined : Nat → Nat → Int32) (s_self s_grown : Nat → Nat → Int32) (v2 : Int32) (kx82 : (Nat → Nat → Int32) → Option ((Int32) × (Nat → Nat → Int32))) (hkx82 : ∀ (s_joined : Nat → Nat → Int32), kx82 s_joined = some (r, f_joined) → Gd p l e rm_Gw_joinWaiting s m args below meth c 0 0 (MQ below (sq D classes (tyK K) (some (.int r)) [wd_Gw K a_self (a_grammar 0) (a_grown 0) (a_joined 0) s_self, wd_Sy K a_grown n_grown s_grown, wd_Sy K a_joined n_joined f_joined] A) args s 0 0 A) D classes A 4 82 [wd_Gw K a_self (a_grammar 0) (a_grown 0) (a_joined 0) s_self, wd_Sy K a_grown n_grown s_grown, wd_Sy K a_joined n_joined s_joined] [] []) (kx90 : (Nat → Nat → Int32) → Option ((Int32) × (Nat → Nat → Int32))) (hkx90 : ∀ (s_joined : Nat → Nat → Int32), kx90 s_joined = some (r, f_joined) → Gd p l e rm_Gw_joinWaiting s m args below meth c 0 0 (MQ below (sq D classes (tyK K) (some (.int r)) [wd_Gw K a_self (a_grammar 0) (a_grown 0) (a_joined 0) s_self, wd_Sy K a_grown n_grown s_grown, wd_Sy K a_joined n_joined f_joined] A) args s 0 0 A) D classes A 4 90 [wd_Gw K a_self (a_grammar 0) (a_grown 0) (a_joined 0) s_self, wd_Sy K a_grown n_grown s_grown, wd_Sy K a_joined n_joined s_joined] [] []) : ∀ (n : Nat) (s_joined : Nat → Nat → Int32) (v3 : Int32), l_Gw_joinWaiting_59 N n_grown n_joined s_self s_grown v2 kx82 kx90 n s_joined v3 = some (r, f_joined) → Gd p l e rm_Gw_joinWaiting s m args below meth c 0 0 (MQ below (sq D classes (tyK K) (some (.int r)) [wd_Gw K a_self (a_grammar 0) (a_grown 0) (a_joined 0) s_self, wd_Sy K a_grown n_grown s_grown, wd_Sy K a_joined n_joined f_joined] A) args s 0 0 A) D classes A 4 59 [wd_Gw K a_self (a_grammar 0) (a_grown 0) (a_joined 0) s_self, wd_Sy K a_grown n_grown s_grown, wd_Sy K a_joined n_joined s_joined] [(0, .ref (a_self 0)), (2, .int v2), (3, .int v3)] [] := by
  intro n
  induction n with
  | zero => intro s_joined v3 h; have h : (none : Option ((Int32) × (Nat → Nat → Int32))) = some _ := h; cases h
  | succ n ih =>
    intro s_joined v3 h
    exact t_Gw_joinWaiting_59 a_self a_grammar a_grown a_joined n_grown n_joined X hr hlk N r f_joined s_self s_grown s_joined v2 v3 (l_Gw_joinWaiting_59 N n_grown n_joined s_self s_grown v2 kx82 kx90 n) ih kx82 hkx82 kx90 hkx90 h
def f_Gw_joinWaiting_0 (N : Nat) (n_grown : Nat) (n_joined : Nat) (s_self s_grown s_joined : Nat → Nat → Int32) (v1 : Int32) : Option ((Int32) × (Nat → Nat → Int32)) :=
  if v1 < 0 then
    some ((0), s_joined)
  else
    if (s_self 0 4) ≤ v1 then
      some ((0), s_joined)
    else
      if (s_self 0 4) ≤ 12 then
        if v1 = ((s_self 0 4) - 1) then
          nm (s_grown 0 1) fun v2_9 =>
          ck v1 12 <|
          nm (s_self 2 (Int32.toNatClampNeg v1)) fun v3_11 =>
          l_Gw_joinWaiting_59 N n_grown n_joined s_self s_grown v2_9 (fun s_joined => f_Gw_joinWaiting_82 N n_grown n_joined s_self s_grown s_joined) (fun s_joined => f_Gw_joinWaiting_90 N n_grown n_joined s_self s_grown s_joined) N s_joined v3_11
        else
          ck (v1 + 1) 12 <|
          nm (s_self 2 (Int32.toNatClampNeg (v1 + 1))) fun v2_6 =>
          ck v1 12 <|
          nm (s_self 2 (Int32.toNatClampNeg v1)) fun v3_8 =>
          l_Gw_joinWaiting_59 N n_grown n_joined s_self s_grown v2_6 (fun s_joined => f_Gw_joinWaiting_82 N n_grown n_joined s_self s_grown s_joined) (fun s_joined => f_Gw_joinWaiting_90 N n_grown n_joined s_self s_grown s_joined) N s_joined v3_8
      else
        some ((0), s_joined)
set_option maxHeartbeats 4000000 in
set_option maxRecDepth 100000 in
theorem t_Gw_joinWaiting_0 {p : Program} {l : Launch} {e : Env} {s : State} {m : MethodId} {args : Array Value} {below : List Frame} {meth : Method} {c : Code} {A : Nat → Prop} {D : va_G} {K : Nat → ClassId} (a_self a_grammar a_grown a_joined : Nat → Nat) (n_grown : Nat) (n_joined : Nat) (X : gx p s m args c b_Gw_joinWaiting 4 R_Gw w_Gw_joinWaiting D classes (tyK K) A) (hr : meth.sig.returnType = some .boolean) (hlk : meth.locks = false) (N : Nat) (r : Int32) (f_joined : Nat → Nat → Int32) (s_self s_grown s_joined : Nat → Nat → Int32) (v1 : Int32) (h : f_Gw_joinWaiting_0 N n_grown n_joined s_self s_grown s_joined v1 = some (r, f_joined)) : Gd p l e rm_Gw_joinWaiting s m args below meth c 0 0 (MQ below (sq D classes (tyK K) (some (.int r)) [wd_Gw K a_self (a_grammar 0) (a_grown 0) (a_joined 0) s_self, wd_Sy K a_grown n_grown s_grown, wd_Sy K a_joined n_joined f_joined] A) args s 0 0 A) D classes A 4 0 [wd_Gw K a_self (a_grammar 0) (a_grown 0) (a_joined 0) s_self, wd_Sy K a_grown n_grown s_grown, wd_Sy K a_joined n_joined s_joined] [(0, .ref (a_self 0)), (1, .int v1)] [] := by
  unfold f_Gw_joinWaiting_0 at h
  refine gd_iload_n X d_Gw_joinWaiting_0 1 rfl ?_
  refine gd_if_lt X (tgt := 21) d_Gw_joinWaiting_1 (by decide) (fun c_1 => ?_) (fun c_1 => ?_)
  · replace h := it_p c_1 h
    refine gd_iconst X (v := 0) d_Gw_joinWaiting_21 (by decide) ?_
    cases h
    exact gd_zret X hr hlk (by decide) d_Gw_joinWaiting_22
  · replace h := it_n c_1 h
    refine gd_iload_n X d_Gw_joinWaiting_4 1 rfl ?_
    refine gd_aload_n X d_Gw_joinWaiting_5 0 rfl ?_
    refine gd_get X (ci := 4) (C := R_Gw) (T := F_Gw) (N := 7) (v := .int (s_self 0 4)) 0 0 rfl rfl rfl (in_Gw _) 4 (by decide) (List.mem_cons_of_mem _ fl_Gw_76) rfl rfl d_Gw_joinWaiting_6 ?_
    refine gd_icmp_ge X (tgt := 21) d_Gw_joinWaiting_9 (by decide) (fun c_2 => ?_) (fun c_2 => ?_)
    · replace h := it_p c_2 h
      refine gd_iconst X (v := 0) d_Gw_joinWaiting_21 (by decide) ?_
      cases h
      exact gd_zret X hr hlk (by decide) d_Gw_joinWaiting_22
    · replace h := it_n c_2 h
      refine gd_aload_n X d_Gw_joinWaiting_12 0 rfl ?_
      refine gd_get X (ci := 4) (C := R_Gw) (T := F_Gw) (N := 7) (v := .int (s_self 0 4)) 0 0 rfl rfl rfl (in_Gw _) 4 (by decide) (List.mem_cons_of_mem _ fl_Gw_76) rfl rfl d_Gw_joinWaiting_13 ?_
      refine gd_bipush X (v := 12) d_Gw_joinWaiting_16 (by decide) ?_
      refine gd_icmp_le X (tgt := 23) d_Gw_joinWaiting_18 (by decide) (fun c_3 => ?_) (fun c_3 => ?_)
      · replace h := it_p c_3 h
        refine gd_iload_n X d_Gw_joinWaiting_23 1 rfl ?_
        refine gd_aload_n X d_Gw_joinWaiting_24 0 rfl ?_
        refine gd_get X (ci := 4) (C := R_Gw) (T := F_Gw) (N := 7) (v := .int (s_self 0 4)) 0 0 rfl rfl rfl (in_Gw _) 4 (by decide) (List.mem_cons_of_mem _ fl_Gw_76) rfl rfl d_Gw_joinWaiting_25 ?_
        refine gd_iconst X (v := 1) d_Gw_joinWaiting_28 (by decide) ?_
        refine gd_isub X d_Gw_joinWaiting_29 ?_
        refine gd_icmp_ne X (tgt := 43) d_Gw_joinWaiting_30 (by decide) (fun c_4 => ?_) (fun c_4 => ?_)
        · replace h := it_n c_4 h
          refine gd_aload_n X d_Gw_joinWaiting_43 0 rfl ?_
          refine gd_get X (ci := 4) (C := R_Gw) (T := F_Gw) (N := 7) (v := .ref (a_self 2)) 0 0 rfl rfl rfl (in_Gw _) 3 (by decide) (List.mem_cons_of_mem _ fl_Gw_28) rfl rfl d_Gw_joinWaiting_44 ?_
          refine gd_iload_n X d_Gw_joinWaiting_47 1 rfl ?_
          refine gd_iconst X (v := 1) d_Gw_joinWaiting_48 (by decide) ?_
          refine gd_iadd X d_Gw_joinWaiting_49 ?_
          obtain ⟨hi_5, h⟩ := ck_e h
          refine gd_iald X 0 2 0 rfl rfl rfl hi_5 d_Gw_joinWaiting_50 ?_
          obtain ⟨v2_6, ev2_6, h⟩ := nm_e' h
          refine gd_topi ev2_6 ?_
          refine gd_istore_n X (lv' := [(2, .int v2_6), (0, .ref (a_self 0)), (1, .int v1)]) d_Gw_joinWaiting_51 rfl (by decide) rfl ?_
          refine gd_aload_n X d_Gw_joinWaiting_52 1 rfl ?_
          refine gd_get X (ci := 4) (C := R_Gw) (T := F_Gw) (N := 7) (v := .ref (a_self 2)) 0 0 rfl rfl rfl (in_Gw _) 3 (by decide) (List.mem_cons_of_mem _ fl_Gw_28) rfl rfl d_Gw_joinWaiting_53 ?_
          refine gd_iload_n X d_Gw_joinWaiting_56 2 rfl ?_
          obtain ⟨hi_7, h⟩ := ck_e h
          refine gd_iald X 0 2 0 rfl rfl rfl hi_7 d_Gw_joinWaiting_57 ?_
          obtain ⟨v3_8, ev3_8, h⟩ := nm_e' h
          refine gd_topi ev3_8 ?_
          refine gd_istore_n X (lv' := [(3, .int v3_8), (2, .int v2_6), (0, .ref (a_self 0)), (1, .int v1)]) d_Gw_joinWaiting_58 rfl (by decide) rfl ?_
          refine gd_loc (lv' := [(0, .ref (a_self 0)), (2, .int v2_6), (3, .int v3_8)]) [2, 1, 0] rfl ?_
          exact tl_Gw_joinWaiting_59 a_self a_grammar a_grown a_joined n_grown n_joined X hr hlk N r f_joined s_self s_grown v2_6 (fun s_joined => f_Gw_joinWaiting_82 N n_grown n_joined s_self s_grown s_joined) (fun s_joined h => t_Gw_joinWaiting_82 a_self a_grammar a_grown a_joined n_grown n_joined X hr hlk N r f_joined s_self s_grown s_joined h) (fun s_joined => f_Gw_joinWaiting_90 N n_grown n_joined s_self s_grown s_joined) (fun s_joined h => t_Gw_joinWaiting_90 a_self a_grammar a_grown a_joined n_grown n_joined X hr hlk N r f_joined s_self s_grown s_joined h) N s_joined v3_8 h
        · replace h := it_p c_4 h
          refine gd_aload_n X d_Gw_joinWaiting_33 0 rfl ?_
          refine gd_get X (ci := 4) (C := R_Gw) (T := F_Gw) (N := 7) (v := .ref (a_grown 0)) 0 0 rfl rfl rfl (in_Gw _) 2 (by decide) (List.mem_cons_of_mem _ fl_Gw_24) rfl rfl d_Gw_joinWaiting_34 ?_
          refine gd_get X (ci := 0) (C := R_Sy) (T := F_Sy) (N := 2) (v := .int (s_grown 0 1)) 1 0 rfl rfl rfl (in_Sy _) 1 (by decide) (List.mem_cons_of_mem _ fl_Gw_46) rfl rfl d_Gw_joinWaiting_37 ?_
          refine gd_goto X (tgt := 51) d_Gw_joinWaiting_40 (by decide) ?_
          obtain ⟨v2_9, ev2_9, h⟩ := nm_e' h
          refine gd_topi ev2_9 ?_
          refine gd_istore_n X (lv' := [(2, .int v2_9), (0, .ref (a_self 0)), (1, .int v1)]) d_Gw_joinWaiting_51 rfl (by decide) rfl ?_
          refine gd_aload_n X d_Gw_joinWaiting_52 1 rfl ?_
          refine gd_get X (ci := 4) (C := R_Gw) (T := F_Gw) (N := 7) (v := .ref (a_self 2)) 0 0 rfl rfl rfl (in_Gw _) 3 (by decide) (List.mem_cons_of_mem _ fl_Gw_28) rfl rfl d_Gw_joinWaiting_53 ?_
          refine gd_iload_n X d_Gw_joinWaiting_56 2 rfl ?_
          obtain ⟨hi_10, h⟩ := ck_e h
          refine gd_iald X 0 2 0 rfl rfl rfl hi_10 d_Gw_joinWaiting_57 ?_
          obtain ⟨v3_11, ev3_11, h⟩ := nm_e' h
          refine gd_topi ev3_11 ?_
          refine gd_istore_n X (lv' := [(3, .int v3_11), (2, .int v2_9), (0, .ref (a_self 0)), (1, .int v1)]) d_Gw_joinWaiting_58 rfl (by decide) rfl ?_
          refine gd_loc (lv' := [(0, .ref (a_self 0)), (2, .int v2_9), (3, .int v3_11)]) [2, 1, 0] rfl ?_
          exact tl_Gw_joinWaiting_59 a_self a_grammar a_grown a_joined n_grown n_joined X hr hlk N r f_joined s_self s_grown v2_9 (fun s_joined => f_Gw_joinWaiting_82 N n_grown n_joined s_self s_grown s_joined) (fun s_joined h => t_Gw_joinWaiting_82 a_self a_grammar a_grown a_joined n_grown n_joined X hr hlk N r f_joined s_self s_grown s_joined h) (fun s_joined => f_Gw_joinWaiting_90 N n_grown n_joined s_self s_grown s_joined) (fun s_joined h => t_Gw_joinWaiting_90 a_self a_grammar a_grown a_joined n_grown n_joined X hr hlk N r f_joined s_self s_grown s_joined h) N s_joined v3_11 h
      · replace h := it_n c_3 h
        refine gd_iconst X (v := 0) d_Gw_joinWaiting_21 (by decide) ?_
        cases h
        exact gd_zret X hr hlk (by decide) d_Gw_joinWaiting_22
def m_Gw_joinWaiting (N : Nat) (n_grown : Nat) (n_joined : Nat) (s_self s_grown s_joined : Nat → Nat → Int32) (v1 : Int32) : Option ((Int32) × (Nat → Nat → Int32)) := f_Gw_joinWaiting_0 N n_grown n_joined s_self s_grown s_joined v1
set_option maxHeartbeats 4000000 in
set_option maxRecDepth 100000 in
theorem c_Gw_joinWaiting (l : Launch) (D : va_G) (K : Nat → ClassId) (a_self a_grammar a_grown a_joined : Nat → Nat) (n_grown : Nat) (n_joined : Nat) (N : Nat) (s_self s_grown s_joined : Nat → Nat → Int32) (v1 : Int32) (r : Int32) (f_joined : Nat → Nat → Int32) (h : m_Gw_joinWaiting N n_grown n_joined s_self s_grown s_joined v1 = some (r, f_joined)) : SMet l y_Gw_joinWaiting w_Gw_joinWaiting rm_Gw_joinWaiting D classes (tyK K) [.ref (a_self 0), .int v1] (some (.int r)) [wd_Gw K a_self (a_grammar 0) (a_grown 0) (a_joined 0) s_self, wd_Sy K a_grown n_grown s_grown, wd_Sy K a_joined n_joined s_joined] [wd_Gw K a_self (a_grammar 0) (a_grown 0) (a_joined 0) s_self, wd_Sy K a_grown n_grown s_grown, wd_Sy K a_joined n_joined f_joined] := by
  refine sm_of R_Gw (by decide) rfl rfl (Nat.le_of_ble_eq_true rfl) ?_
  intro p e s m below meth c A X hr hlk
  refine gd_loc (lv' := [(0, .ref (a_self 0)), (1, .int v1)]) [0, 1] rfl ?_
  exact t_Gw_joinWaiting_0 a_self a_grammar a_grown a_joined n_grown n_joined X hr hlk N r f_joined s_self s_grown s_joined v1 h
