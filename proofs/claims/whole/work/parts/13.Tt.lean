abbrev b_Tt_offerDraft : ByteArray := prog_7_method_7_code
def y_Tt_offerDraft : MethodName := ⟨R_Tt, "offerDraft", "(I)V"⟩
def w_Tt_offerDraft : List Cond := .code y_Tt_offerDraft b_Tt_offerDraft 4 none :: TB
theorem k_Tt_offerDraft : Cond.code y_Tt_offerDraft b_Tt_offerDraft 4 none ∈ TB := tb_of 454 (by decide +kernel) (by decide +kernel)
theorem d_Tt_offerDraft_0 : decode b_Tt_offerDraft 0 = .ok (.iload_n 1, 1) := by decide +kernel
theorem d_Tt_offerDraft_1 : decode b_Tt_offerDraft 1 = .ok (.invokestatic 30, 3) := by decide +kernel
theorem d_Tt_offerDraft_4 : decode b_Tt_offerDraft 4 = .ok (.ifCond .ne 4, 3) := by decide +kernel
theorem d_Tt_offerDraft_7 : decode b_Tt_offerDraft 7 = .ok (.return_, 1) := by decide +kernel
theorem d_Tt_offerDraft_8 : decode b_Tt_offerDraft 8 = .ok (.iload_n 1, 1) := by decide +kernel
theorem d_Tt_offerDraft_9 : decode b_Tt_offerDraft 9 = .ok (.iconst 0, 1) := by decide +kernel
theorem d_Tt_offerDraft_10 : decode b_Tt_offerDraft 10 = .ok (.invokestatic 34, 3) := by decide +kernel
theorem d_Tt_offerDraft_13 : decode b_Tt_offerDraft 13 = .ok (.istore_n 2, 1) := by decide +kernel
theorem d_Tt_offerDraft_14 : decode b_Tt_offerDraft 14 = .ok (.iload_n 1, 1) := by decide +kernel
theorem d_Tt_offerDraft_15 : decode b_Tt_offerDraft 15 = .ok (.iconst 1, 1) := by decide +kernel
theorem d_Tt_offerDraft_16 : decode b_Tt_offerDraft 16 = .ok (.invokestatic 34, 3) := by decide +kernel
theorem d_Tt_offerDraft_19 : decode b_Tt_offerDraft 19 = .ok (.istore_n 3, 1) := by decide +kernel
theorem d_Tt_offerDraft_20 : decode b_Tt_offerDraft 20 = .ok (.aload_n 0, 1) := by decide +kernel
theorem d_Tt_offerDraft_21 : decode b_Tt_offerDraft 21 = .ok (.getfield 11, 3) := by decide +kernel
theorem d_Tt_offerDraft_24 : decode b_Tt_offerDraft 24 = .ok (.sipush 936, 3) := by decide +kernel
theorem d_Tt_offerDraft_27 : decode b_Tt_offerDraft 27 = .ok (.aload_n 0, 1) := by decide +kernel
theorem d_Tt_offerDraft_28 : decode b_Tt_offerDraft 28 = .ok (.invokevirtual 43, 3) := by decide +kernel
theorem d_Tt_offerDraft_31 : decode b_Tt_offerDraft 31 = .ok (.iastore, 1) := by decide +kernel
theorem d_Tt_offerDraft_32 : decode b_Tt_offerDraft 32 = .ok (.aload_n 0, 1) := by decide +kernel
theorem d_Tt_offerDraft_33 : decode b_Tt_offerDraft 33 = .ok (.getfield 11, 3) := by decide +kernel
theorem d_Tt_offerDraft_36 : decode b_Tt_offerDraft 36 = .ok (.sipush 936, 3) := by decide +kernel
theorem d_Tt_offerDraft_39 : decode b_Tt_offerDraft 39 = .ok (.iaload, 1) := by decide +kernel
theorem d_Tt_offerDraft_40 : decode b_Tt_offerDraft 40 = .ok (.sipush 150, 3) := by decide +kernel
theorem d_Tt_offerDraft_43 : decode b_Tt_offerDraft 43 = .ok (.if_icmp .gt 23, 3) := by decide +kernel
theorem d_Tt_offerDraft_46 : decode b_Tt_offerDraft 46 = .ok (.aload_n 0, 1) := by decide +kernel
theorem d_Tt_offerDraft_47 : decode b_Tt_offerDraft 47 = .ok (.getfield 11, 3) := by decide +kernel
theorem d_Tt_offerDraft_50 : decode b_Tt_offerDraft 50 = .ok (.iload_n 3, 1) := by decide +kernel
theorem d_Tt_offerDraft_51 : decode b_Tt_offerDraft 51 = .ok (.iaload, 1) := by decide +kernel
theorem d_Tt_offerDraft_52 : decode b_Tt_offerDraft 52 = .ok (.ifCond .le 15, 3) := by decide +kernel
theorem d_Tt_offerDraft_55 : decode b_Tt_offerDraft 55 = .ok (.aload_n 0, 1) := by decide +kernel
theorem d_Tt_offerDraft_56 : decode b_Tt_offerDraft 56 = .ok (.sipush 936, 3) := by decide +kernel
theorem d_Tt_offerDraft_59 : decode b_Tt_offerDraft 59 = .ok (.iload_n 3, 1) := by decide +kernel
theorem d_Tt_offerDraft_60 : decode b_Tt_offerDraft 60 = .ok (.invokevirtual 47, 3) := by decide +kernel
theorem d_Tt_offerDraft_63 : decode b_Tt_offerDraft 63 = .ok (.ifCond .ne 4, 3) := by decide +kernel
theorem d_Tt_offerDraft_66 : decode b_Tt_offerDraft 66 = .ok (.return_, 1) := by decide +kernel
theorem d_Tt_offerDraft_67 : decode b_Tt_offerDraft 67 = .ok (.aload_n 0, 1) := by decide +kernel
theorem d_Tt_offerDraft_68 : decode b_Tt_offerDraft 68 = .ok (.getfield 11, 3) := by decide +kernel
theorem d_Tt_offerDraft_71 : decode b_Tt_offerDraft 71 = .ok (.iload_n 2, 1) := by decide +kernel
theorem d_Tt_offerDraft_72 : decode b_Tt_offerDraft 72 = .ok (.iaload, 1) := by decide +kernel
theorem d_Tt_offerDraft_73 : decode b_Tt_offerDraft 73 = .ok (.ifCond .eq 14, 3) := by decide +kernel
theorem d_Tt_offerDraft_76 : decode b_Tt_offerDraft 76 = .ok (.aload_n 0, 1) := by decide +kernel
theorem d_Tt_offerDraft_77 : decode b_Tt_offerDraft 77 = .ok (.sipush 936, 3) := by decide +kernel
theorem d_Tt_offerDraft_80 : decode b_Tt_offerDraft 80 = .ok (.iload_n 2, 1) := by decide +kernel
theorem d_Tt_offerDraft_81 : decode b_Tt_offerDraft 81 = .ok (.invokevirtual 47, 3) := by decide +kernel
theorem d_Tt_offerDraft_84 : decode b_Tt_offerDraft 84 = .ok (.ifCond .eq 20, 3) := by decide +kernel
theorem d_Tt_offerDraft_87 : decode b_Tt_offerDraft 87 = .ok (.aload_n 0, 1) := by decide +kernel
theorem d_Tt_offerDraft_88 : decode b_Tt_offerDraft 88 = .ok (.iload_n 2, 1) := by decide +kernel
theorem d_Tt_offerDraft_89 : decode b_Tt_offerDraft 89 = .ok (.iload_n 3, 1) := by decide +kernel
theorem d_Tt_offerDraft_90 : decode b_Tt_offerDraft 90 = .ok (.invokevirtual 51, 3) := by decide +kernel
theorem d_Tt_offerDraft_93 : decode b_Tt_offerDraft 93 = .ok (.aload_n 0, 1) := by decide +kernel
theorem d_Tt_offerDraft_94 : decode b_Tt_offerDraft 94 = .ok (.sipush 936, 3) := by decide +kernel
theorem d_Tt_offerDraft_97 : decode b_Tt_offerDraft 97 = .ok (.iload_n 2, 1) := by decide +kernel
theorem d_Tt_offerDraft_98 : decode b_Tt_offerDraft 98 = .ok (.invokevirtual 51, 3) := by decide +kernel
theorem d_Tt_offerDraft_101 : decode b_Tt_offerDraft 101 = .ok (.goto 11, 3) := by decide +kernel
theorem d_Tt_offerDraft_104 : decode b_Tt_offerDraft 104 = .ok (.aload_n 0, 1) := by decide +kernel
theorem d_Tt_offerDraft_105 : decode b_Tt_offerDraft 105 = .ok (.sipush 936, 3) := by decide +kernel
theorem d_Tt_offerDraft_108 : decode b_Tt_offerDraft 108 = .ok (.iload_n 3, 1) := by decide +kernel
theorem d_Tt_offerDraft_109 : decode b_Tt_offerDraft 109 = .ok (.invokevirtual 51, 3) := by decide +kernel
theorem d_Tt_offerDraft_112 : decode b_Tt_offerDraft 112 = .ok (.return_, 1) := by decide +kernel
theorem ml_Tt_51 : Cond.methodLink R_Tt 51 ⟨"RuleTrees$TreeTable", "copyTree", "(II)V"⟩ ∈ TB := tb_of 471 (by decide +kernel) (by decide +kernel)
theorem u_Tt_copyTree : (Cond.instanceMethod y_Tt_copyTree ∈ TB ∧ Cond.selects R_Tt y_Tt_copyTree y_Tt_copyTree ∈ TB) ∧ Cond.initialized R_Tt ∈ TB ∧ Cond.code y_Tt_copyTree b_Tt_copyTree 4 none ∈ TB := ⟨⟨(tb_of 473 (by decide +kernel) (by decide +kernel)), (tb_of 11 (by decide +kernel) (by decide +kernel))⟩, (tb_of 65 (by decide +kernel) (by decide +kernel)), k_Tt_copyTree⟩
theorem ml_Tt_47 : Cond.methodLink R_Tt 47 ⟨"RuleTrees$TreeTable", "isLess", "(II)Z"⟩ ∈ TB := tb_of 463 (by decide +kernel) (by decide +kernel)
theorem u_Tt_isLess : (Cond.instanceMethod y_Tt_isLess ∈ TB ∧ Cond.selects R_Tt y_Tt_isLess y_Tt_isLess ∈ TB) ∧ Cond.initialized R_Tt ∈ TB ∧ Cond.code y_Tt_isLess b_Tt_isLess 7 (some .boolean) ∈ TB := ⟨⟨(tb_of 465 (by decide +kernel) (by decide +kernel)), (tb_of 9 (by decide +kernel) (by decide +kernel))⟩, (tb_of 65 (by decide +kernel) (by decide +kernel)), k_Tt_isLess⟩
theorem ml_Tt_43 : Cond.methodLink R_Tt 43 ⟨"RuleTrees$TreeTable", "draftSize", "()I"⟩ ∈ TB := tb_of 455 (by decide +kernel) (by decide +kernel)
theorem u_Tt_draftSize : (Cond.instanceMethod y_Tt_draftSize ∈ TB ∧ Cond.selects R_Tt y_Tt_draftSize y_Tt_draftSize ∈ TB) ∧ Cond.initialized R_Tt ∈ TB ∧ Cond.code y_Tt_draftSize b_Tt_draftSize 3 (some .int) ∈ TB := ⟨⟨(tb_of 457 (by decide +kernel) (by decide +kernel)), (tb_of 8 (by decide +kernel) (by decide +kernel))⟩, (tb_of 65 (by decide +kernel) (by decide +kernel)), k_Tt_draftSize⟩
abbrev rm_Tt_offerDraft : Room := { frames := 2, cells := 0, slots := 0, locals := 51 }
def f_Tt_offerDraft_87 (N : Nat) (s_self : Nat → Nat → Int32) (v2 v3 : Int32) : Option ((Nat → Nat → Int32)) :=
  bd1 (m_Tt_copyTree N s_self v2 v3) fun s_self_1 =>
  bd1 (m_Tt_copyTree N s_self_1 936 v2) fun s_self_3 =>
  some s_self_3
set_option maxHeartbeats 4000000 in
set_option maxRecDepth 100000 in
theorem t_Tt_offerDraft_87 {p : Program} {l : Launch} {e : Env} {s : State} {m : MethodId} {args : Array Value} {below : List Frame} {meth : Method} {c : Code} {A : Nat → Prop} {D : va_G} {K : Nat → ClassId} (a_self : Nat → Nat) (X : gx p s m args c b_Tt_offerDraft 4 R_Tt w_Tt_offerDraft D classes (tyK K) A) (hr : meth.sig.returnType = none) (hlk : meth.locks = false) (N : Nat) (f_self : Nat → Nat → Int32) (s_self : Nat → Nat → Int32) (v2 v3 : Int32) (h : f_Tt_offerDraft_87 N s_self v2 v3 = some f_self) : Gd p l e rm_Tt_offerDraft s m args below meth c 0 0 (MQ below (sq D classes (tyK K) none [wd_Tt K a_self f_self] A) args s 0 0 A) D classes A 4 87 [wd_Tt K a_self s_self] [(0, .ref (a_self 0)), (2, .int v2), (3, .int v3)] [] := by
  unfold f_Tt_offerDraft_87 at h
  refine gd_aload_n X d_Tt_offerDraft_87 0 rfl ?_
  refine gd_iload_n X d_Tt_offerDraft_88 1 rfl ?_
  refine gd_iload_n X d_Tt_offerDraft_89 2 rfl ?_
  obtain ⟨s_self_1, hc_2, h⟩ := bd1_e h
  refine gd_fv X (w1 := [wd_Tt K a_self s_self_1]) (gd_V X (As := [.int v2, .int v3]) (rest := []) (c_Tt_copyTree l D K a_self N s_self v2 v3 s_self_1 hc_2) 2 (gi_V ml_Tt_51 u_Tt_copyTree) rfl ⟨rfl, rfl⟩ (by decide +kernel) ⟨by decide, by decide⟩ (ci := 2) rfl rfl rfl rfl rfl rfl (Nat.le_of_ble_eq_true rfl) ⟨Nat.zero_le _, Nat.zero_le _⟩ d_Tt_offerDraft_90) ?_
  refine gd_aload_n X d_Tt_offerDraft_93 0 rfl ?_
  refine gd_sipush X (v := 936) d_Tt_offerDraft_94 (by decide) ?_
  refine gd_iload_n X d_Tt_offerDraft_97 1 rfl ?_
  obtain ⟨s_self_3, hc_4, h⟩ := bd1_e h
  refine gd_fv X (w1 := [wd_Tt K a_self s_self_3]) (gd_V X (As := [.int 936, .int v2]) (rest := []) (c_Tt_copyTree l D K a_self N s_self_1 936 v2 s_self_3 hc_4) 2 (gi_V ml_Tt_51 u_Tt_copyTree) rfl ⟨rfl, rfl⟩ (by decide +kernel) ⟨by decide, by decide⟩ (ci := 2) rfl rfl rfl rfl rfl rfl (Nat.le_of_ble_eq_true rfl) ⟨Nat.zero_le _, Nat.zero_le _⟩ d_Tt_offerDraft_98) ?_
  refine gd_goto X (tgt := 112) d_Tt_offerDraft_101 (by decide) ?_
  cases h
  exact gd_vret X hr hlk d_Tt_offerDraft_112
def f_Tt_offerDraft_67 (N : Nat) (s_self : Nat → Nat → Int32) (v2 v3 : Int32) : Option ((Nat → Nat → Int32)) :=
  ck v2 937 <|
  if (s_self 1 (Int32.toNatClampNeg v2)) = 0 then
    f_Tt_offerDraft_87 N s_self v2 v3
  else
    bd2 (m_Tt_isLess N s_self 936 v2) fun r_3 s_self_4 =>
    if r_3 = 0 then
      bd1 (m_Tt_copyTree N s_self_4 936 v3) fun s_self_7 =>
      some s_self_7
    else
      f_Tt_offerDraft_87 N s_self_4 v2 v3
set_option maxHeartbeats 4000000 in
set_option maxRecDepth 100000 in
theorem t_Tt_offerDraft_67 {p : Program} {l : Launch} {e : Env} {s : State} {m : MethodId} {args : Array Value} {below : List Frame} {meth : Method} {c : Code} {A : Nat → Prop} {D : va_G} {K : Nat → ClassId} (a_self : Nat → Nat) (X : gx p s m args c b_Tt_offerDraft 4 R_Tt w_Tt_offerDraft D classes (tyK K) A) (hr : meth.sig.returnType = none) (hlk : meth.locks = false) (N : Nat) (f_self : Nat → Nat → Int32) (s_self : Nat → Nat → Int32) (v2 v3 : Int32) (h : f_Tt_offerDraft_67 N s_self v2 v3 = some f_self) : Gd p l e rm_Tt_offerDraft s m args below meth c 0 0 (MQ below (sq D classes (tyK K) none [wd_Tt K a_self f_self] A) args s 0 0 A) D classes A 4 67 [wd_Tt K a_self s_self] [(0, .ref (a_self 0)), (2, .int v2), (3, .int v3)] [] := by
  unfold f_Tt_offerDraft_67 at h
  refine gd_aload_n X d_Tt_offerDraft_67 0 rfl ?_
  refine gd_get X (ci := 2) (C := R_Tt) (T := F_Tt) (N := 6) (v := .ref (a_self 1)) 0 0 rfl rfl rfl (in_Tt _) 0 (by decide) (List.mem_cons_of_mem _ fl_Tt_11) rfl rfl d_Tt_offerDraft_68 ?_
  refine gd_iload_n X d_Tt_offerDraft_71 1 rfl ?_
  obtain ⟨hi_1, h⟩ := ck_e h
  refine gd_iald X 0 1 0 rfl rfl rfl hi_1 d_Tt_offerDraft_72 ?_
  refine gd_if_eq X (tgt := 87) d_Tt_offerDraft_73 (by decide) (fun c_2 => ?_) (fun c_2 => ?_)
  · replace h := it_p c_2 h
    exact t_Tt_offerDraft_87 a_self X hr hlk N f_self s_self v2 v3 h
  · replace h := it_n c_2 h
    refine gd_aload_n X d_Tt_offerDraft_76 0 rfl ?_
    refine gd_sipush X (v := 936) d_Tt_offerDraft_77 (by decide) ?_
    refine gd_iload_n X d_Tt_offerDraft_80 1 rfl ?_
    obtain ⟨r_3, s_self_4, hc_5, h⟩ := bd2_e h
    refine gd_fI X (w1 := [wd_Tt K a_self s_self_4]) (gd_V X (As := [.int 936, .int v2]) (rest := []) (c_Tt_isLess l D K a_self N s_self 936 v2 r_3 s_self_4 hc_5) 2 (gi_V ml_Tt_47 u_Tt_isLess) rfl ⟨rfl, rfl⟩ (by decide +kernel) ⟨by decide, by decide⟩ (ci := 2) rfl rfl rfl rfl rfl rfl (Nat.le_of_ble_eq_true rfl) ⟨Nat.zero_le _, Nat.zero_le _⟩ d_Tt_offerDraft_81) ?_
    refine gd_if_eq X (tgt := 104) d_Tt_offerDraft_84 (by decide) (fun c_6 => ?_) (fun c_6 => ?_)
    · replace h := it_p c_6 h
      refine gd_aload_n X d_Tt_offerDraft_104 0 rfl ?_
      refine gd_sipush X (v := 936) d_Tt_offerDraft_105 (by decide) ?_
      refine gd_iload_n X d_Tt_offerDraft_108 2 rfl ?_
      obtain ⟨s_self_7, hc_8, h⟩ := bd1_e h
      refine gd_fv X (w1 := [wd_Tt K a_self s_self_7]) (gd_V X (As := [.int 936, .int v3]) (rest := []) (c_Tt_copyTree l D K a_self N s_self_4 936 v3 s_self_7 hc_8) 2 (gi_V ml_Tt_51 u_Tt_copyTree) rfl ⟨rfl, rfl⟩ (by decide +kernel) ⟨by decide, by decide⟩ (ci := 2) rfl rfl rfl rfl rfl rfl (Nat.le_of_ble_eq_true rfl) ⟨Nat.zero_le _, Nat.zero_le _⟩ d_Tt_offerDraft_109) ?_
      cases h
      exact gd_vret X hr hlk d_Tt_offerDraft_112
    · replace h := it_n c_6 h
      exact t_Tt_offerDraft_87 a_self X hr hlk N f_self s_self_4 v2 v3 h
def f_Tt_offerDraft_0 (N : Nat) (s_self : Nat → Nat → Int32) (v1 : Int32) : Option ((Nat → Nat → Int32)) :=
  bd1 (m_Tt_isCell v1) fun r_1 =>
  if r_1 = 0 then
    some s_self
  else
    bd1 (m_Tt_treeOf v1 0) fun r_4 =>
    bd1 (m_Tt_treeOf v1 1) fun r_6 =>
    bd1 (m_Tt_draftSize N s_self) fun r_8 =>
    ck 936 937 <| nm (st2 s_self 1 (Int32.toNatClampNeg 936) r_8) fun s_self_11 =>
    ck 936 937 <|
    if 150 < (s_self_11 1 (Int32.toNatClampNeg 936)) then
      some s_self_11
    else
      ck r_6 937 <|
      if (s_self_11 1 (Int32.toNatClampNeg r_6)) ≤ 0 then
        f_Tt_offerDraft_67 N s_self_11 r_4 r_6
      else
        bd2 (m_Tt_isLess N s_self_11 936 r_6) fun r_16 s_self_17 =>
        if r_16 = 0 then
          some s_self_17
        else
          f_Tt_offerDraft_67 N s_self_17 r_4 r_6
set_option maxHeartbeats 4000000 in
set_option maxRecDepth 100000 in
theorem t_Tt_offerDraft_0 {p : Program} {l : Launch} {e : Env} {s : State} {m : MethodId} {args : Array Value} {below : List Frame} {meth : Method} {c : Code} {A : Nat → Prop} {D : va_G} {K : Nat → ClassId} (a_self : Nat → Nat) (X : gx p s m args c b_Tt_offerDraft 4 R_Tt w_Tt_offerDraft D classes (tyK K) A) (hr : meth.sig.returnType = none) (hlk : meth.locks = false) (N : Nat) (f_self : Nat → Nat → Int32) (s_self : Nat → Nat → Int32) (v1 : Int32) (h : f_Tt_offerDraft_0 N s_self v1 = some f_self) : Gd p l e rm_Tt_offerDraft s m args below meth c 0 0 (MQ below (sq D classes (tyK K) none [wd_Tt K a_self f_self] A) args s 0 0 A) D classes A 4 0 [wd_Tt K a_self s_self] [(0, .ref (a_self 0)), (1, .int v1)] [] := by
  unfold f_Tt_offerDraft_0 at h
  refine gd_iload_n X d_Tt_offerDraft_0 1 rfl ?_
  obtain ⟨r_1, hc_2, h⟩ := bd1_e h
  refine gd_pI X (gd_Sc X (As := [.int v1]) (rest := []) (c_Tt_isCell l D K v1 r_1 hc_2) 1 (gi_S ml_Tt_30 u_Tt_isCell) rfl ⟨rfl, rfl⟩ (by decide +kernel) ⟨by decide, by decide⟩ rfl rfl (Nat.le_of_ble_eq_true rfl) ⟨Nat.zero_le _, Nat.zero_le _⟩ d_Tt_offerDraft_1) [] rfl rfl ?_
  refine gd_if_ne X (tgt := 8) d_Tt_offerDraft_4 (by decide) (fun c_3 => ?_) (fun c_3 => ?_)
  · replace h := it_n c_3 h
    refine gd_iload_n X d_Tt_offerDraft_8 1 rfl ?_
    refine gd_iconst X (v := 0) d_Tt_offerDraft_9 (by decide) ?_
    obtain ⟨r_4, hc_5, h⟩ := bd1_e h
    refine gd_pI X (gd_Sc X (As := [.int v1, .int 0]) (rest := []) (c_Tt_treeOf l D K v1 0 r_4 hc_5) 2 (gi_S ml_Tt_34 u_Tt_treeOf) rfl ⟨rfl, rfl⟩ (by decide +kernel) ⟨by decide, by decide⟩ rfl rfl (Nat.le_of_ble_eq_true rfl) ⟨Nat.zero_le _, Nat.zero_le _⟩ d_Tt_offerDraft_10) [] rfl rfl ?_
    refine gd_istore_n X (lv' := [(2, .int r_4), (0, .ref (a_self 0)), (1, .int v1)]) d_Tt_offerDraft_13 rfl (by decide) rfl ?_
    refine gd_iload_n X d_Tt_offerDraft_14 2 rfl ?_
    refine gd_iconst X (v := 1) d_Tt_offerDraft_15 (by decide) ?_
    obtain ⟨r_6, hc_7, h⟩ := bd1_e h
    refine gd_pI X (gd_Sc X (As := [.int v1, .int 1]) (rest := []) (c_Tt_treeOf l D K v1 1 r_6 hc_7) 2 (gi_S ml_Tt_34 u_Tt_treeOf) rfl ⟨rfl, rfl⟩ (by decide +kernel) ⟨by decide, by decide⟩ rfl rfl (Nat.le_of_ble_eq_true rfl) ⟨Nat.zero_le _, Nat.zero_le _⟩ d_Tt_offerDraft_16) [] rfl rfl ?_
    refine gd_istore_n X (lv' := [(3, .int r_6), (2, .int r_4), (0, .ref (a_self 0)), (1, .int v1)]) d_Tt_offerDraft_19 rfl (by decide) rfl ?_
    refine gd_aload_n X d_Tt_offerDraft_20 2 rfl ?_
    refine gd_get X (ci := 2) (C := R_Tt) (T := F_Tt) (N := 6) (v := .ref (a_self 1)) 0 0 rfl rfl rfl (in_Tt _) 0 (by decide) (List.mem_cons_of_mem _ fl_Tt_11) rfl rfl d_Tt_offerDraft_21 ?_
    refine gd_sipush X (v := 936) d_Tt_offerDraft_24 (by decide) ?_
    refine gd_aload_n X d_Tt_offerDraft_27 2 rfl ?_
    obtain ⟨r_8, hc_9, h⟩ := bd1_e h
    refine gd_fI X (gd_V X (As := []) (rest := [.int 936, .ref (a_self 1)]) (c_Tt_draftSize l D K a_self N s_self r_8 hc_9) 0 (gi_V ml_Tt_43 u_Tt_draftSize) rfl ⟨rfl, rfl⟩ (by decide +kernel) ⟨by decide, by decide⟩ (ci := 2) rfl rfl rfl rfl rfl rfl (Nat.le_of_ble_eq_true rfl) ⟨Nat.zero_le _, Nat.zero_le _⟩ d_Tt_offerDraft_28) ?_
    obtain ⟨hi_10, h⟩ := ck_e h
    obtain ⟨s_self_11, es_self_11, h⟩ := nm_e' h
    refine gd_iast X (w' := [wd_Tt K a_self s_self_11]) 0 1 0 rfl rfl rfl hi_10 d_Tt_offerDraft_31 (by rw [es_self_11]; rfl) ?_
    refine gd_aload_n X d_Tt_offerDraft_32 2 rfl ?_
    refine gd_get X (ci := 2) (C := R_Tt) (T := F_Tt) (N := 6) (v := .ref (a_self 1)) 0 0 rfl rfl rfl (in_Tt _) 0 (by decide) (List.mem_cons_of_mem _ fl_Tt_11) rfl rfl d_Tt_offerDraft_33 ?_
    refine gd_sipush X (v := 936) d_Tt_offerDraft_36 (by decide) ?_
    obtain ⟨hi_12, h⟩ := ck_e h
    refine gd_iald X 0 1 0 rfl rfl rfl hi_12 d_Tt_offerDraft_39 ?_
    refine gd_sipush X (v := 150) d_Tt_offerDraft_40 (by decide) ?_
    refine gd_icmp_gt X (tgt := 66) d_Tt_offerDraft_43 (by decide) (fun c_13 => ?_) (fun c_13 => ?_)
    · replace h := it_p c_13 h
      cases h
      exact gd_vret X hr hlk d_Tt_offerDraft_66
    · replace h := it_n c_13 h
      refine gd_aload_n X d_Tt_offerDraft_46 2 rfl ?_
      refine gd_get X (ci := 2) (C := R_Tt) (T := F_Tt) (N := 6) (v := .ref (a_self 1)) 0 0 rfl rfl rfl (in_Tt _) 0 (by decide) (List.mem_cons_of_mem _ fl_Tt_11) rfl rfl d_Tt_offerDraft_47 ?_
      refine gd_iload_n X d_Tt_offerDraft_50 0 rfl ?_
      obtain ⟨hi_14, h⟩ := ck_e h
      refine gd_iald X 0 1 0 rfl rfl rfl hi_14 d_Tt_offerDraft_51 ?_
      refine gd_if_le X (tgt := 67) d_Tt_offerDraft_52 (by decide) (fun c_15 => ?_) (fun c_15 => ?_)
      · replace h := it_p c_15 h
        refine gd_loc (lv' := [(0, .ref (a_self 0)), (2, .int r_4), (3, .int r_6)]) [2, 1, 0] rfl ?_
        exact t_Tt_offerDraft_67 a_self X hr hlk N f_self s_self_11 r_4 r_6 h
      · replace h := it_n c_15 h
        refine gd_aload_n X d_Tt_offerDraft_55 2 rfl ?_
        refine gd_sipush X (v := 936) d_Tt_offerDraft_56 (by decide) ?_
        refine gd_iload_n X d_Tt_offerDraft_59 0 rfl ?_
        obtain ⟨r_16, s_self_17, hc_18, h⟩ := bd2_e h
        refine gd_fI X (w1 := [wd_Tt K a_self s_self_17]) (gd_V X (As := [.int 936, .int r_6]) (rest := []) (c_Tt_isLess l D K a_self N s_self_11 936 r_6 r_16 s_self_17 hc_18) 2 (gi_V ml_Tt_47 u_Tt_isLess) rfl ⟨rfl, rfl⟩ (by decide +kernel) ⟨by decide, by decide⟩ (ci := 2) rfl rfl rfl rfl rfl rfl (Nat.le_of_ble_eq_true rfl) ⟨Nat.zero_le _, Nat.zero_le _⟩ d_Tt_offerDraft_60) ?_
        refine gd_if_ne X (tgt := 67) d_Tt_offerDraft_63 (by decide) (fun c_19 => ?_) (fun c_19 => ?_)
        · replace h := it_n c_19 h
          refine gd_loc (lv' := [(0, .ref (a_self 0)), (2, .int r_4), (3, .int r_6)]) [2, 1, 0] rfl ?_
          exact t_Tt_offerDraft_67 a_self X hr hlk N f_self s_self_17 r_4 r_6 h
        · replace h := it_p c_19 h
          cases h
          exact gd_vret X hr hlk d_Tt_offerDraft_66
  · replace h := it_p c_3 h
    cases h
    exact gd_vret X hr hlk d_Tt_offerDraft_7
def m_Tt_offerDraft (N : Nat) (s_self : Nat → Nat → Int32) (v1 : Int32) : Option ((Nat → Nat → Int32)) := f_Tt_offerDraft_0 N s_self v1
set_option maxHeartbeats 4000000 in
set_option maxRecDepth 100000 in
theorem c_Tt_offerDraft (l : Launch) (D : va_G) (K : Nat → ClassId) (a_self : Nat → Nat) (N : Nat) (s_self : Nat → Nat → Int32) (v1 : Int32) (f_self : Nat → Nat → Int32) (h : m_Tt_offerDraft N s_self v1 = some f_self) : SMet l y_Tt_offerDraft w_Tt_offerDraft rm_Tt_offerDraft D classes (tyK K) [.ref (a_self 0), .int v1] none [wd_Tt K a_self s_self] [wd_Tt K a_self f_self] := by
  refine sm_of R_Tt (by decide) rfl rfl (Nat.le_of_ble_eq_true rfl) ?_
  intro p e s m below meth c A X hr hlk
  refine gd_loc (lv' := [(0, .ref (a_self 0)), (1, .int v1)]) [0, 1] rfl ?_
  exact t_Tt_offerDraft_0 a_self X hr hlk N f_self s_self v1 h
abbrev b_Tt_spellTree : ByteArray := prog_7_method_8_code
def y_Tt_spellTree : MethodName := ⟨R_Tt, "spellTree", "(ILRuleTrees$Symbols;)V"⟩
def w_Tt_spellTree : List Cond := .code y_Tt_spellTree b_Tt_spellTree 6 none :: TB
theorem k_Tt_spellTree : Cond.code y_Tt_spellTree b_Tt_spellTree 6 none ∈ TB := tb_of 575 (by decide +kernel) (by decide +kernel)
theorem d_Tt_spellTree_0 : decode b_Tt_spellTree 0 = .ok (.aload_n 2, 1) := by decide +kernel
theorem d_Tt_spellTree_1 : decode b_Tt_spellTree 1 = .ok (.invokevirtual 55, 3) := by decide +kernel
theorem d_Tt_spellTree_4 : decode b_Tt_spellTree 4 = .ok (.pop, 1) := by decide +kernel
theorem d_Tt_spellTree_5 : decode b_Tt_spellTree 5 = .ok (.aload_n 0, 1) := by decide +kernel
theorem d_Tt_spellTree_6 : decode b_Tt_spellTree 6 = .ok (.iload_n 1, 1) := by decide +kernel
theorem d_Tt_spellTree_7 : decode b_Tt_spellTree 7 = .ok (.invokevirtual 60, 3) := by decide +kernel
theorem d_Tt_spellTree_10 : decode b_Tt_spellTree 10 = .ok (.ifCond .ne 4, 3) := by decide +kernel
theorem d_Tt_spellTree_13 : decode b_Tt_spellTree 13 = .ok (.return_, 1) := by decide +kernel
theorem d_Tt_spellTree_14 : decode b_Tt_spellTree 14 = .ok (.iconst 1, 1) := by decide +kernel
theorem d_Tt_spellTree_15 : decode b_Tt_spellTree 15 = .ok (.istore_n 3, 1) := by decide +kernel
theorem d_Tt_spellTree_16 : decode b_Tt_spellTree 16 = .ok (.aload_n 0, 1) := by decide +kernel
theorem d_Tt_spellTree_17 : decode b_Tt_spellTree 17 = .ok (.getfield 24, 3) := by decide +kernel
theorem d_Tt_spellTree_20 : decode b_Tt_spellTree 20 = .ok (.iconst 0, 1) := by decide +kernel
theorem d_Tt_spellTree_21 : decode b_Tt_spellTree 21 = .ok (.iload_n 1, 1) := by decide +kernel
theorem d_Tt_spellTree_22 : decode b_Tt_spellTree 22 = .ok (.iastore, 1) := by decide +kernel
theorem d_Tt_spellTree_23 : decode b_Tt_spellTree 23 = .ok (.iconst 0, 1) := by decide +kernel
theorem d_Tt_spellTree_24 : decode b_Tt_spellTree 24 = .ok (.istore 4, 2) := by decide +kernel
theorem d_Tt_spellTree_26 : decode b_Tt_spellTree 26 = .ok (.iload 4, 2) := by decide +kernel
theorem d_Tt_spellTree_28 : decode b_Tt_spellTree 28 = .ok (.sipush 150, 3) := by decide +kernel
theorem d_Tt_spellTree_31 : decode b_Tt_spellTree 31 = .ok (.if_icmp .ge 48, 3) := by decide +kernel
theorem d_Tt_spellTree_34 : decode b_Tt_spellTree 34 = .ok (.iload_n 3, 1) := by decide +kernel
theorem d_Tt_spellTree_35 : decode b_Tt_spellTree 35 = .ok (.ifCond .le 44, 3) := by decide +kernel
theorem d_Tt_spellTree_38 : decode b_Tt_spellTree 38 = .ok (.iinc 3 (-1), 3) := by decide +kernel
theorem d_Tt_spellTree_41 : decode b_Tt_spellTree 41 = .ok (.aload_n 0, 1) := by decide +kernel
theorem d_Tt_spellTree_42 : decode b_Tt_spellTree 42 = .ok (.getfield 24, 3) := by decide +kernel
theorem d_Tt_spellTree_45 : decode b_Tt_spellTree 45 = .ok (.iload_n 3, 1) := by decide +kernel
theorem d_Tt_spellTree_46 : decode b_Tt_spellTree 46 = .ok (.iaload, 1) := by decide +kernel
theorem d_Tt_spellTree_47 : decode b_Tt_spellTree 47 = .ok (.istore 5, 2) := by decide +kernel
theorem d_Tt_spellTree_49 : decode b_Tt_spellTree 49 = .ok (.aload_n 2, 1) := by decide +kernel
theorem d_Tt_spellTree_50 : decode b_Tt_spellTree 50 = .ok (.aload_n 0, 1) := by decide +kernel
theorem d_Tt_spellTree_51 : decode b_Tt_spellTree 51 = .ok (.getfield 15, 3) := by decide +kernel
theorem d_Tt_spellTree_54 : decode b_Tt_spellTree 54 = .ok (.iload 5, 2) := by decide +kernel
theorem d_Tt_spellTree_56 : decode b_Tt_spellTree 56 = .ok (.iaload, 1) := by decide +kernel
theorem d_Tt_spellTree_57 : decode b_Tt_spellTree 57 = .ok (.invokevirtual 64, 3) := by decide +kernel
theorem d_Tt_spellTree_60 : decode b_Tt_spellTree 60 = .ok (.pop, 1) := by decide +kernel
theorem d_Tt_spellTree_61 : decode b_Tt_spellTree 61 = .ok (.aload_n 0, 1) := by decide +kernel
theorem d_Tt_spellTree_62 : decode b_Tt_spellTree 62 = .ok (.iload 5, 2) := by decide +kernel
theorem d_Tt_spellTree_64 : decode b_Tt_spellTree 64 = .ok (.aload_n 0, 1) := by decide +kernel
theorem d_Tt_spellTree_65 : decode b_Tt_spellTree 65 = .ok (.getfield 24, 3) := by decide +kernel
theorem d_Tt_spellTree_68 : decode b_Tt_spellTree 68 = .ok (.iload_n 3, 1) := by decide +kernel
theorem d_Tt_spellTree_69 : decode b_Tt_spellTree 69 = .ok (.invokevirtual 67, 3) := by decide +kernel
theorem d_Tt_spellTree_72 : decode b_Tt_spellTree 72 = .ok (.istore_n 3, 1) := by decide +kernel
theorem d_Tt_spellTree_73 : decode b_Tt_spellTree 73 = .ok (.iinc 4 1, 3) := by decide +kernel
theorem d_Tt_spellTree_76 : decode b_Tt_spellTree 76 = .ok (.goto (-50), 3) := by decide +kernel
theorem d_Tt_spellTree_79 : decode b_Tt_spellTree 79 = .ok (.return_, 1) := by decide +kernel
theorem ml_Tt_64 : Cond.methodLink R_Tt 64 ⟨"RuleTrees$Symbols", "append", "(I)Z"⟩ ∈ TB := tb_of 577 (by decide +kernel) (by decide +kernel)
theorem ml_Tt_55 : Cond.methodLink R_Tt 55 ⟨"RuleTrees$Symbols", "empty", "()I"⟩ ∈ TB := tb_of 576 (by decide +kernel) (by decide +kernel)
theorem u_Sy_empty : (Cond.instanceMethod y_Sy_empty ∈ TB ∧ Cond.selects R_Sy y_Sy_empty y_Sy_empty ∈ TB) ∧ Cond.initialized R_Sy ∈ TB ∧ Cond.code y_Sy_empty b_Sy_empty 2 (some .int) ∈ TB := ⟨⟨(tb_of 359 (by decide +kernel) (by decide +kernel)), (tb_of 360 (by decide +kernel) (by decide +kernel))⟩, (tb_of 67 (by decide +kernel) (by decide +kernel)), k_Sy_empty⟩
abbrev rm_Tt_spellTree : Room := { frames := 1, cells := 0, slots := 0, locals := 25 }
def f_Tt_spellTree_26 (N : Nat) (n_p1 : Nat) (kb : (Nat → Nat → Int32) → (Nat → Nat → Int32) → Int32 → Int32 → Option ((Nat → Nat → Int32) × (Nat → Nat → Int32))) (kx79 : (Nat → Nat → Int32) → (Nat → Nat → Int32) → Option ((Nat → Nat → Int32) × (Nat → Nat → Int32))) (s_self s_p1 : Nat → Nat → Int32) (v3 v4 : Int32) : Option ((Nat → Nat → Int32) × (Nat → Nat → Int32)) :=
  if 150 ≤ v4 then
    kx79 s_self s_p1
  else
    if v3 ≤ 0 then
      kx79 s_self s_p1
    else
      nm (v3 + (-1)) fun v3_3 =>
      ck v3_3 150 <|
      nm (s_self 5 (Int32.toNatClampNeg v3_3)) fun v5_5 =>
      ck v5_5 937 <|
      bd2 (m_Sy_append n_p1 s_p1 (s_self 2 (Int32.toNatClampNeg v5_5))) fun r_7 s_p1_8 =>
      bd2 (m_Tt_stackParts_5 N s_self v5_5 v3_3) fun r_10 s_self_11 =>
      nm (v4 + 1) fun v4_13 =>
      kb s_self_11 s_p1_8 r_10 v4_13
set_option maxHeartbeats 4000000 in
set_option maxRecDepth 100000 in
theorem t_Tt_spellTree_26 {p : Program} {l : Launch} {e : Env} {s : State} {m : MethodId} {args : Array Value} {below : List Frame} {meth : Method} {c : Code} {A : Nat → Prop} {D : va_G} {K : Nat → ClassId} (a_self a_p1 : Nat → Nat) (n_p1 : Nat) (X : gx p s m args c b_Tt_spellTree 6 R_Tt w_Tt_spellTree D classes (tyK K) A) (hr : meth.sig.returnType = none) (hlk : meth.locks = false) (N : Nat) (f_self f_p1 : Nat → Nat → Int32) (s_self s_p1 : Nat → Nat → Int32) (v3 v4 : Int32) (kb : (Nat → Nat → Int32) → (Nat → Nat → Int32) → Int32 → Int32 → Option ((Nat → Nat → Int32) × (Nat → Nat → Int32))) (hkb : ∀ (s_self s_p1 : Nat → Nat → Int32) (v3 v4 : Int32), kb s_self s_p1 v3 v4 = some (f_self, f_p1) → Gd p l e rm_Tt_spellTree s m args below meth c 0 0 (MQ below (sq D classes (tyK K) none [wd_Tt K a_self f_self, wd_Sy K a_p1 n_p1 f_p1] A) args s 0 0 A) D classes A 6 26 [wd_Tt K a_self s_self, wd_Sy K a_p1 n_p1 s_p1] [(0, .ref (a_self 0)), (2, .ref (a_p1 0)), (3, .int v3), (4, .int v4)] []) (kx79 : (Nat → Nat → Int32) → (Nat → Nat → Int32) → Option ((Nat → Nat → Int32) × (Nat → Nat → Int32))) (hkx79 : ∀ (s_self s_p1 : Nat → Nat → Int32), kx79 s_self s_p1 = some (f_self, f_p1) → Gd p l e rm_Tt_spellTree s m args below meth c 0 0 (MQ below (sq D classes (tyK K) none [wd_Tt K a_self f_self, wd_Sy K a_p1 n_p1 f_p1] A) args s 0 0 A) D classes A 6 79 [wd_Tt K a_self s_self, wd_Sy K a_p1 n_p1 s_p1] [] []) (h : f_Tt_spellTree_26 N n_p1 kb kx79 s_self s_p1 v3 v4 = some (f_self, f_p1)) : Gd p l e rm_Tt_spellTree s m args below meth c 0 0 (MQ below (sq D classes (tyK K) none [wd_Tt K a_self f_self, wd_Sy K a_p1 n_p1 f_p1] A) args s 0 0 A) D classes A 6 26 [wd_Tt K a_self s_self, wd_Sy K a_p1 n_p1 s_p1] [(0, .ref (a_self 0)), (2, .ref (a_p1 0)), (3, .int v3), (4, .int v4)] [] := by
  unfold f_Tt_spellTree_26 at h
  refine gd_iload X d_Tt_spellTree_26 3 rfl ?_
  refine gd_sipush X (v := 150) d_Tt_spellTree_28 (by decide) ?_
  refine gd_icmp_ge X (tgt := 79) d_Tt_spellTree_31 (by decide) (fun c_1 => ?_) (fun c_1 => ?_)
  · replace h := it_p c_1 h
    refine gd_loc (lv' := []) [] rfl ?_
    exact hkx79 s_self s_p1 h
  · replace h := it_n c_1 h
    refine gd_iload_n X d_Tt_spellTree_34 2 rfl ?_
    refine gd_if_le X (tgt := 79) d_Tt_spellTree_35 (by decide) (fun c_2 => ?_) (fun c_2 => ?_)
    · replace h := it_p c_2 h
      refine gd_loc (lv' := []) [] rfl ?_
      exact hkx79 s_self s_p1 h
    · replace h := it_n c_2 h
      obtain ⟨v3_3, ev3_3, h⟩ := nm_e' h
      refine gd_iinc X (v := v3_3) (lv' := [(3, .int v3_3), (0, .ref (a_self 0)), (2, .ref (a_p1 0)), (4, .int v4)]) d_Tt_spellTree_38 (k := 2) rfl (by rw [ev3_3, show Int32.ofInt (-1) = (-1) from by decide]) (by decide) rfl ?_
      refine gd_aload_n X d_Tt_spellTree_41 1 rfl ?_
      refine gd_get X (ci := 2) (C := R_Tt) (T := F_Tt) (N := 6) (v := .ref (a_self 5)) 0 0 rfl rfl rfl (in_Tt _) 4 (by decide) (List.mem_cons_of_mem _ fl_Tt_24) rfl rfl d_Tt_spellTree_42 ?_
      refine gd_iload_n X d_Tt_spellTree_45 0 rfl ?_
      obtain ⟨hi_4, h⟩ := ck_e h
      refine gd_iald X 0 5 0 rfl rfl rfl hi_4 d_Tt_spellTree_46 ?_
      obtain ⟨v5_5, ev5_5, h⟩ := nm_e' h
      refine gd_topi ev5_5 ?_
      refine gd_istore X (lv' := [(5, .int v5_5), (3, .int v3_3), (0, .ref (a_self 0)), (2, .ref (a_p1 0)), (4, .int v4)]) d_Tt_spellTree_47 (by decide) rfl ?_
      refine gd_aload_n X d_Tt_spellTree_49 3 rfl ?_
      refine gd_aload_n X d_Tt_spellTree_50 2 rfl ?_
      refine gd_get X (ci := 2) (C := R_Tt) (T := F_Tt) (N := 6) (v := .ref (a_self 2)) 0 0 rfl rfl rfl (in_Tt _) 1 (by decide) (List.mem_cons_of_mem _ fl_Tt_15) rfl rfl d_Tt_spellTree_51 ?_
      refine gd_iload X d_Tt_spellTree_54 0 rfl ?_
      obtain ⟨hi_6, h⟩ := ck_e h
      refine gd_iald X 0 2 0 rfl rfl rfl hi_6 d_Tt_spellTree_56 ?_
      obtain ⟨r_7, s_p1_8, hc_9, h⟩ := bd2_e h
      refine gd_cI X (gd_V X (As := [.int (s_self 2 (Int32.toNatClampNeg v5_5))]) (rest := []) (c_Sy_append l D K a_p1 n_p1 s_p1 (s_self 2 (Int32.toNatClampNeg v5_5)) r_7 s_p1_8 hc_9) 1 (gi_V ml_Tt_64 u_Sy_append) rfl ⟨rfl, rfl⟩ (by decide +kernel) ⟨by decide, by decide⟩ (ci := 0) rfl rfl rfl rfl rfl rfl (Nat.le_of_ble_eq_true rfl) ⟨Nat.zero_le _, Nat.zero_le _⟩ d_Tt_spellTree_57) (w2 := [wd_Tt K a_self s_self, wd_Sy K a_p1 n_p1 s_p1_8]) [1] [0] rfl rfl rfl rfl ⟨rfl, rfl⟩ rfl ?_
      refine gd_pop X d_Tt_spellTree_60 rfl ?_
      refine gd_aload_n X d_Tt_spellTree_61 2 rfl ?_
      refine gd_iload X d_Tt_spellTree_62 0 rfl ?_
      refine gd_aload_n X d_Tt_spellTree_64 2 rfl ?_
      refine gd_get X (ci := 2) (C := R_Tt) (T := F_Tt) (N := 6) (v := .ref (a_self 5)) 0 0 rfl rfl rfl (in_Tt _) 4 (by decide) (List.mem_cons_of_mem _ fl_Tt_24) rfl rfl d_Tt_spellTree_65 ?_
      refine gd_iload_n X d_Tt_spellTree_68 1 rfl ?_
      obtain ⟨r_10, s_self_11, hc_12, h⟩ := bd2_e h
      refine gd_cI X (gd_V X (As := [.int v5_5, .ref (a_self 5), .int v3_3]) (rest := []) (c_Tt_stackParts_5 l D K a_self N s_self v5_5 v3_3 r_10 s_self_11 hc_12) 3 (gi_V ml_Tt_67 u_Tt_stackParts) rfl ⟨rfl, rfl⟩ (by decide +kernel) ⟨by decide, by decide⟩ (ci := 2) rfl rfl rfl rfl rfl rfl (Nat.le_of_ble_eq_true rfl) ⟨Nat.zero_le _, Nat.zero_le _⟩ d_Tt_spellTree_69) (w2 := [wd_Tt K a_self s_self_11, wd_Sy K a_p1 n_p1 s_p1_8]) [0] [1] rfl rfl rfl rfl ⟨rfl, rfl⟩ rfl ?_
      refine gd_istore_n X (lv' := [(3, .int r_10), (5, .int v5_5), (0, .ref (a_self 0)), (2, .ref (a_p1 0)), (4, .int v4)]) d_Tt_spellTree_72 rfl (by decide) rfl ?_
      obtain ⟨v4_13, ev4_13, h⟩ := nm_e' h
      refine gd_iinc X (v := v4_13) (lv' := [(4, .int v4_13), (3, .int r_10), (5, .int v5_5), (0, .ref (a_self 0)), (2, .ref (a_p1 0))]) d_Tt_spellTree_73 (k := 4) rfl (by rw [ev4_13]; rfl) (by decide) rfl ?_
      refine gd_goto X (tgt := 26) d_Tt_spellTree_76 (by decide) ?_
      refine gd_loc (lv' := [(0, .ref (a_self 0)), (2, .ref (a_p1 0)), (3, .int r_10), (4, .int v4_13)]) [3, 4, 1, 0] rfl ?_
      exact hkb s_self_11 s_p1_8 r_10 v4_13 h
def f_Tt_spellTree_79 (N : Nat) (n_p1 : Nat) (s_self s_p1 : Nat → Nat → Int32) : Option ((Nat → Nat → Int32) × (Nat → Nat → Int32)) :=
  some (s_self, s_p1)
set_option maxHeartbeats 4000000 in
set_option maxRecDepth 100000 in
theorem t_Tt_spellTree_79 {p : Program} {l : Launch} {e : Env} {s : State} {m : MethodId} {args : Array Value} {below : List Frame} {meth : Method} {c : Code} {A : Nat → Prop} {D : va_G} {K : Nat → ClassId} (a_self a_p1 : Nat → Nat) (n_p1 : Nat) (X : gx p s m args c b_Tt_spellTree 6 R_Tt w_Tt_spellTree D classes (tyK K) A) (hr : meth.sig.returnType = none) (hlk : meth.locks = false) (N : Nat) (f_self f_p1 : Nat → Nat → Int32) (s_self s_p1 : Nat → Nat → Int32) (h : f_Tt_spellTree_79 N n_p1 s_self s_p1 = some (f_self, f_p1)) : Gd p l e rm_Tt_spellTree s m args below meth c 0 0 (MQ below (sq D classes (tyK K) none [wd_Tt K a_self f_self, wd_Sy K a_p1 n_p1 f_p1] A) args s 0 0 A) D classes A 6 79 [wd_Tt K a_self s_self, wd_Sy K a_p1 n_p1 s_p1] [] [] := by
  unfold f_Tt_spellTree_79 at h
  cases h
  exact gd_vret X hr hlk d_Tt_spellTree_79
def l_Tt_spellTree_26 (N : Nat) (n_p1 : Nat) (kx79 : (Nat → Nat → Int32) → (Nat → Nat → Int32) → Option ((Nat → Nat → Int32) × (Nat → Nat → Int32))) : Nat → (Nat → Nat → Int32) → (Nat → Nat → Int32) → Int32 → Int32 → Option ((Nat → Nat → Int32) × (Nat → Nat → Int32))
  | 0, _, _, _, _ => none
  | n + 1, s_self, s_p1, v3, v4 => f_Tt_spellTree_26 N n_p1 (l_Tt_spellTree_26 N n_p1 kx79 n) kx79 s_self s_p1 v3 v4
set_option maxHeartbeats 4000000 in
set_option maxRecDepth 100000 in
theorem tl_Tt_spellTree_26 {p : Program} {l : Launch} {e : Env} {s : State} {m : MethodId} {args : Array Value} {below : List Frame} {meth : Method} {c : Code} {A : Nat → Prop} {D : va_G} {K : Nat → ClassId} (a_self a_p1 : Nat → Nat) (n_p1 : Nat) (X : gx p s m args c b_Tt_spellTree 6 R_Tt w_Tt_spellTree D classes (tyK K) A) (hr : meth.sig.returnType = none) (hlk : meth.locks = false) (N : Nat) (f_self f_p1 : Nat → Nat → Int32) (kx79 : (Nat → Nat → Int32) → (Nat → Nat → Int32) → Option ((Nat → Nat → Int32) × (Nat → Nat → Int32))) (hkx79 : ∀ (s_self s_p1 : Nat → Nat → Int32), kx79 s_self s_p1 = some (f_self, f_p1) → Gd p l e rm_Tt_spellTree s m args below meth c 0 0 (MQ below (sq D classes (tyK K) none [wd_Tt K a_self f_self, wd_Sy K a_p1 n_p1 f_p1] A) args s 0 0 A) D classes A 6 79 [wd_Tt K a_self s_self, wd_Sy K a_p1 n_p1 s_p1] [] []) : ∀ (n : Nat) (s_self s_p1 : Nat → Nat → Int32) (v3 v4 : Int32), l_Tt_spellTree_26 N n_p1 kx79 n s_self s_p1 v3 v4 = some (f_self, f_p1) → Gd p l e rm_Tt_spellTree s m args below meth c 0 0 (MQ below (sq D classes (tyK K) none [wd_Tt K a_self f_self, wd_Sy K a_p1 n_p1 f_p1] A) args s 0 0 A) D classes A 6 26 [wd_Tt K a_self s_self, wd_Sy K a_p1 n_p1 s_p1] [(0, .ref (a_self 0)), (2, .ref (a_p1 0)), (3, .int v3), (4, .int v4)] [] := by
  intro n
  induction n with
  | zero => intro s_self s_p1 v3 v4 h; have h : (none : Option ((Nat → Nat → Int32) × (Nat → Nat → Int32))) = some _ := h; cases h
  | succ n ih =>
    intro s_self s_p1 v3 v4 h
    exact t_Tt_spellTree_26 a_self a_p1 n_p1 X hr hlk N f_self f_p1 s_self s_p1 v3 v4 (l_Tt_spellTree_26 N n_p1 kx79 n) ih kx79 hkx79 h
def f_Tt_spellTree_0 (N : Nat) (n_p1 : Nat) (s_self s_p1 : Nat → Nat → Int32) (v1 : Int32) : Option ((Nat → Nat → Int32) × (Nat → Nat → Int32)) :=
  bd2 (m_Sy_empty n_p1 s_p1) fun r_1 s_p1_2 =>
  bd1 (m_Tt_sizeAt s_self v1) fun r_4 =>
  if r_4 = 0 then
    some (s_self, s_p1_2)
  else
    ck 0 150 <| nm (st2 s_self 5 (Int32.toNatClampNeg 0) v1) fun s_self_8 =>
    l_Tt_spellTree_26 N n_p1 (fun s_self s_p1 => f_Tt_spellTree_79 N n_p1 s_self s_p1) N s_self_8 s_p1_2 1 0
set_option maxHeartbeats 4000000 in
set_option maxRecDepth 100000 in
theorem t_Tt_spellTree_0 {p : Program} {l : Launch} {e : Env} {s : State} {m : MethodId} {args : Array Value} {below : List Frame} {meth : Method} {c : Code} {A : Nat → Prop} {D : va_G} {K : Nat → ClassId} (a_self a_p1 : Nat → Nat) (n_p1 : Nat) (X : gx p s m args c b_Tt_spellTree 6 R_Tt w_Tt_spellTree D classes (tyK K) A) (hr : meth.sig.returnType = none) (hlk : meth.locks = false) (N : Nat) (f_self f_p1 : Nat → Nat → Int32) (s_self s_p1 : Nat → Nat → Int32) (v1 : Int32) (h : f_Tt_spellTree_0 N n_p1 s_self s_p1 v1 = some (f_self, f_p1)) : Gd p l e rm_Tt_spellTree s m args below meth c 0 0 (MQ below (sq D classes (tyK K) none [wd_Tt K a_self f_self, wd_Sy K a_p1 n_p1 f_p1] A) args s 0 0 A) D classes A 6 0 [wd_Tt K a_self s_self, wd_Sy K a_p1 n_p1 s_p1] [(0, .ref (a_self 0)), (1, .int v1), (2, .ref (a_p1 0))] [] := by
  unfold f_Tt_spellTree_0 at h
  refine gd_aload_n X d_Tt_spellTree_0 2 rfl ?_
  obtain ⟨r_1, s_p1_2, hc_3, h⟩ := bd2_e h
  refine gd_cI X (gd_V X (As := []) (rest := []) (c_Sy_empty l D K a_p1 n_p1 s_p1 r_1 s_p1_2 hc_3) 0 (gi_V ml_Tt_55 u_Sy_empty) rfl ⟨rfl, rfl⟩ (by decide +kernel) ⟨by decide, by decide⟩ (ci := 0) rfl rfl rfl rfl rfl rfl (Nat.le_of_ble_eq_true rfl) ⟨Nat.zero_le _, Nat.zero_le _⟩ d_Tt_spellTree_1) (w2 := [wd_Tt K a_self s_self, wd_Sy K a_p1 n_p1 s_p1_2]) [1] [0] rfl rfl rfl rfl ⟨rfl, rfl⟩ rfl ?_
  refine gd_pop X d_Tt_spellTree_4 rfl ?_
  refine gd_aload_n X d_Tt_spellTree_5 0 rfl ?_
  refine gd_iload_n X d_Tt_spellTree_6 1 rfl ?_
  obtain ⟨r_4, hc_5, h⟩ := bd1_e h
  refine gd_pI X (gd_V X (As := [.int v1]) (rest := []) (c_Tt_sizeAt l D K a_self s_self v1 r_4 hc_5) 1 (gi_V ml_Tt_60 u_Tt_sizeAt) rfl ⟨rfl, rfl⟩ (by decide +kernel) ⟨by decide, by decide⟩ (ci := 2) rfl rfl rfl rfl rfl rfl (Nat.le_of_ble_eq_true rfl) ⟨Nat.zero_le _, Nat.zero_le _⟩ d_Tt_spellTree_7) [0] rfl rfl ?_
  refine gd_if_ne X (tgt := 14) d_Tt_spellTree_10 (by decide) (fun c_6 => ?_) (fun c_6 => ?_)
  · replace h := it_n c_6 h
    refine gd_iconst X (v := 1) d_Tt_spellTree_14 (by decide) ?_
    refine gd_istore_n X (lv' := [(3, .int 1), (0, .ref (a_self 0)), (1, .int v1), (2, .ref (a_p1 0))]) d_Tt_spellTree_15 rfl (by decide) rfl ?_
    refine gd_aload_n X d_Tt_spellTree_16 1 rfl ?_
    refine gd_get X (ci := 2) (C := R_Tt) (T := F_Tt) (N := 6) (v := .ref (a_self 5)) 0 0 rfl rfl rfl (in_Tt _) 4 (by decide) (List.mem_cons_of_mem _ fl_Tt_24) rfl rfl d_Tt_spellTree_17 ?_
    refine gd_iconst X (v := 0) d_Tt_spellTree_20 (by decide) ?_
    refine gd_iload_n X d_Tt_spellTree_21 2 rfl ?_
    obtain ⟨hi_7, h⟩ := ck_e h
    obtain ⟨s_self_8, es_self_8, h⟩ := nm_e' h
    refine gd_iast X (w' := [wd_Tt K a_self s_self_8, wd_Sy K a_p1 n_p1 s_p1_2]) 0 5 0 rfl rfl rfl hi_7 d_Tt_spellTree_22 (by rw [es_self_8]; rfl) ?_
    refine gd_iconst X (v := 0) d_Tt_spellTree_23 (by decide) ?_
    refine gd_istore X (lv' := [(4, .int 0), (3, .int 1), (0, .ref (a_self 0)), (1, .int v1), (2, .ref (a_p1 0))]) d_Tt_spellTree_24 (by decide) rfl ?_
    refine gd_loc (lv' := [(0, .ref (a_self 0)), (2, .ref (a_p1 0)), (3, .int 1), (4, .int 0)]) [2, 4, 1, 0] rfl ?_
    exact tl_Tt_spellTree_26 a_self a_p1 n_p1 X hr hlk N f_self f_p1 (fun s_self s_p1 => f_Tt_spellTree_79 N n_p1 s_self s_p1) (fun s_self s_p1 h => t_Tt_spellTree_79 a_self a_p1 n_p1 X hr hlk N f_self f_p1 s_self s_p1 h) N s_self_8 s_p1_2 1 0 h
  · replace h := it_p c_6 h
    cases h
    exact gd_vret X hr hlk d_Tt_spellTree_13
def m_Tt_spellTree (N : Nat) (n_p1 : Nat) (s_self s_p1 : Nat → Nat → Int32) (v1 : Int32) : Option ((Nat → Nat → Int32) × (Nat → Nat → Int32)) := f_Tt_spellTree_0 N n_p1 s_self s_p1 v1
set_option maxHeartbeats 4000000 in
set_option maxRecDepth 100000 in
theorem c_Tt_spellTree (l : Launch) (D : va_G) (K : Nat → ClassId) (a_self a_p1 : Nat → Nat) (n_p1 : Nat) (N : Nat) (s_self s_p1 : Nat → Nat → Int32) (v1 : Int32) (f_self f_p1 : Nat → Nat → Int32) (h : m_Tt_spellTree N n_p1 s_self s_p1 v1 = some (f_self, f_p1)) : SMet l y_Tt_spellTree w_Tt_spellTree rm_Tt_spellTree D classes (tyK K) [.ref (a_self 0), .int v1, .ref (a_p1 0)] none [wd_Tt K a_self s_self, wd_Sy K a_p1 n_p1 s_p1] [wd_Tt K a_self f_self, wd_Sy K a_p1 n_p1 f_p1] := by
  refine sm_of R_Tt (by decide) rfl rfl (Nat.le_of_ble_eq_true rfl) ?_
  intro p e s m below meth c A X hr hlk
  refine gd_loc (lv' := [(0, .ref (a_self 0)), (1, .int v1), (2, .ref (a_p1 0))]) [0, 1, 2] rfl ?_
  exact t_Tt_spellTree_0 a_self a_p1 n_p1 X hr hlk N f_self f_p1 s_self s_p1 v1 h
