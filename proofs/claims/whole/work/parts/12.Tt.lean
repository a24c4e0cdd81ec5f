abbrev rm_Tt_stackParts_6 : Room := { frames := 0, cells := 0, slots := 0, locals := 0 }
def f_Tt_stackParts_6_13 (N : Nat) (kb : (Nat → Nat → Int32) → Int32 → Int32 → Option ((Int32) × (Nat → Nat → Int32))) (kx49 : (Nat → Nat → Int32) → Int32 → Option ((Int32) × (Nat → Nat → Int32))) (s_self : Nat → Nat → Int32) (v1 v4 v5 : Int32) : Option ((Int32) × (Nat → Nat → Int32)) :=
  if v5 < 0 then
    kx49 s_self v4
  else
    if 150 ≤ v4 then
      kx49 s_self v4
    else
      ck ((v1 * 4) + v5) 3748 <|
      ck v4 150 <| nm (st2 s_self 6 (Int32.toNatClampNeg v4) (s_self 4 (Int32.toNatClampNeg ((v1 * 4) + v5)))) fun s_self_5 =>
      nm (v4 + 1) fun v4_6 =>
      nm (v5 + (-1)) fun v5_7 =>
      kb s_self_5 v4_6 v5_7
set_option maxHeartbeats 4000000 in
set_option maxRecDepth 100000 in
theorem t_Tt_stackParts_6_13 {p : Program} {l : Launch} {e : Env} {s : State} {m : MethodId} {args : Array Value} {below : List Frame} {meth : Method} {c : Code} {A : Nat → Prop} {D : va_G} {K : Nat → ClassId} (a_self : Nat → Nat) (X : gx p s m args c b_Tt_stackParts 6 R_Tt w_Tt_stackParts D classes (tyK K) A) (hr : meth.sig.returnType = some .int) (hlk : meth.locks = false) (N : Nat) (r : Int32) (f_self : Nat → Nat → Int32) (s_self : Nat → Nat → Int32) (v1 v4 v5 : Int32) (kb : (Nat → Nat → Int32) → Int32 → Int32 → Option ((Int32) × (Nat → Nat → Int32))) (hkb : ∀ (s_self : Nat → Nat → Int32) (v4 v5 : Int32), kb s_self v4 v5 = some (r, f_self) → Gd p l e rm_Tt_stackParts_6 s m args below meth c 0 0 (MQ below (sq D classes (tyK K) (some (.int r)) [wd_Tt K a_self f_self] A) args s 0 0 A) D classes A 6 13 [wd_Tt K a_self s_self] [(0, .ref (a_self 0)), (1, .int v1), (2, .ref (a_self 6)), (4, .int v4), (5, .int v5)] []) (kx49 : (Nat → Nat → Int32) → Int32 → Option ((Int32) × (Nat → Nat → Int32))) (hkx49 : ∀ (s_self : Nat → Nat → Int32) (v4 : Int32), kx49 s_self v4 = some (r, f_self) → Gd p l e rm_Tt_stackParts_6 s m args below meth c 0 0 (MQ below (sq D classes (tyK K) (some (.int r)) [wd_Tt K a_self f_self] A) args s 0 0 A) D classes A 6 49 [wd_Tt K a_self s_self] [(4, .int v4)] []) (h : f_Tt_stackParts_6_13 N kb kx49 s_self v1 v4 v5 = some (r, f_self)) : Gd p l e rm_Tt_stackParts_6 s m args below meth c 0 0 (MQ below (sq D classes (tyK K) (some (.int r)) [wd_Tt K a_self f_self] A) args s 0 0 A) D classes A 6 13 [wd_Tt K a_self s_self] [(0, .ref (a_self 0)), (1, .int v1), (2, .ref (a_self 6)), (4, .int v4), (5, .int v5)] [] := by
  unfold f_Tt_stackParts_6_13 at h
  refine gd_iload X d_Tt_stackParts_13 4 rfl ?_
  refine gd_if_lt X (tgt := 49) d_Tt_stackParts_15 (by decide) (fun c_1 => ?_) (fun c_1 => ?_)
  · replace h := it_p c_1 h
    refine gd_loc (lv' := [(4, .int v4)]) [3] rfl ?_
    exact hkx49 s_self v4 h
  · replace h := it_n c_1 h
    refine gd_iload X d_Tt_stackParts_18 3 rfl ?_
    refine gd_aload_n X d_Tt_stackParts_20 2 rfl ?_
    refine gd_alen X 0 6 0 rfl rfl rfl (v := 150) (show Int32.ofNat 150 = 150 from by decide) d_Tt_stackParts_21 ?_
    refine gd_icmp_ge X (tgt := 49) d_Tt_stackParts_22 (by decide) (fun c_2 => ?_) (fun c_2 => ?_)
    · replace h := it_p c_2 h
      refine gd_loc (lv' := [(4, .int v4)]) [3] rfl ?_
      exact hkx49 s_self v4 h
    · replace h := it_n c_2 h
      refine gd_aload_n X d_Tt_stackParts_25 2 rfl ?_
      refine gd_iload X d_Tt_stackParts_26 3 rfl ?_
      refine gd_aload_n X d_Tt_stackParts_28 0 rfl ?_
      refine gd_get X (ci := 2) (C := R_Tt) (T := F_Tt) (N := 6) (v := .ref (a_self 4)) 0 0 rfl rfl rfl (in_Tt _) 3 (by decide) (List.mem_cons_of_mem _ fl_Tt_21) rfl rfl d_Tt_stackParts_29 ?_
      refine gd_iload_n X d_Tt_stackParts_32 1 rfl ?_
      refine gd_iconst X (v := 4) d_Tt_stackParts_33 (by decide) ?_
      refine gd_imul X d_Tt_stackParts_34 ?_
      refine gd_iload X d_Tt_stackParts_35 4 rfl ?_
      refine gd_iadd X d_Tt_stackParts_37 ?_
      obtain ⟨hi_3, h⟩ := ck_e h
      refine gd_iald X 0 4 0 rfl rfl rfl hi_3 d_Tt_stackParts_38 ?_
      obtain ⟨hi_4, h⟩ := ck_e h
      obtain ⟨s_self_5, es_self_5, h⟩ := nm_e' h
      refine gd_iast X (w' := [wd_Tt K a_self s_self_5]) 0 6 0 rfl rfl rfl hi_4 d_Tt_stackParts_39 (by rw [es_self_5]; rfl) ?_
      obtain ⟨v4_6, ev4_6, h⟩ := nm_e' h
      refine gd_iinc X (v := v4_6) (lv' := [(4, .int v4_6), (0, .ref (a_self 0)), (1, .int v1), (2, .ref (a_self 6)), (5, .int v5)]) d_Tt_stackParts_40 (k := 3) rfl (by rw [ev4_6]; rfl) (by decide) rfl ?_
      obtain ⟨v5_7, ev5_7, h⟩ := nm_e' h
      refine gd_iinc X (v := v5_7) (lv' := [(5, .int v5_7), (4, .int v4_6), (0, .ref (a_self 0)), (1, .int v1), (2, .ref (a_self 6))]) d_Tt_stackParts_43 (k := 4) rfl (by rw [ev5_7, show Int32.ofInt (-1) = (-1) from by decide]) (by decide) rfl ?_
      refine gd_goto X (tgt := 13) d_Tt_stackParts_46 (by decide) ?_
      refine gd_loc (lv' := [(0, .ref (a_self 0)), (1, .int v1), (2, .ref (a_self 6)), (4, .int v4_6), (5, .int v5_7)]) [2, 3, 4, 1, 0] rfl ?_
      exact hkb s_self_5 v4_6 v5_7 h
def f_Tt_stackParts_6_49 (N : Nat) (s_self : Nat → Nat → Int32) (v4 : Int32) : Option ((Int32) × (Nat → Nat → Int32)) :=
  some ((v4), s_self)
set_option maxHeartbeats 4000000 in
set_option maxRecDepth 100000 in
theorem t_Tt_stackParts_6_49 {p : Program} {l : Launch} {e : Env} {s : State} {m : MethodId} {args : Array Value} {below : List Frame} {meth : Method} {c : Code} {A : Nat → Prop} {D : va_G} {K : Nat → ClassId} (a_self : Nat → Nat) (X : gx p s m args c b_Tt_stackParts 6 R_Tt w_Tt_stackParts D classes (tyK K) A) (hr : meth.sig.returnType = some .int) (hlk : meth.locks = false) (N : Nat) (r : Int32) (f_self : Nat → Nat → Int32) (s_self : Nat → Nat → Int32) (v4 : Int32) (h : f_Tt_stackParts_6_49 N s_self v4 = some (r, f_self)) : Gd p l e rm_Tt_stackParts_6 s m args below meth c 0 0 (MQ below (sq D classes (tyK K) (some (.int r)) [wd_Tt K a_self f_self] A) args s 0 0 A) D classes A 6 49 [wd_Tt K a_self s_self] [(4, .int v4)] [] := by
  unfold f_Tt_stackParts_6_49 at h
  refine gd_iload X d_Tt_stackParts_49 0 rfl ?_
  cases h
  exact gd_iret X hr hlk d_Tt_stackParts_51
def l_Tt_stackParts_6_13 (N : Nat) (v1 : Int32) (kx49 : (Nat → Nat → Int32) → Int32 → Option ((Int32) × (Nat → Nat → Int32))) : Nat → (Nat → Nat → Int32) → Int32 → Int32 → Option ((Int32) × (Nat → Nat → Int32))
  | 0, _, _, _ => none
  | n + 1, s_self, v4, v5 => f_Tt_stackParts_6_13 N (l_Tt_stackParts_6_13 N v1 kx49 n) kx49 s_self v1 v4 v5
set_option maxHeartbeats 4000000 in
set_option maxRecDepth 100000 in
theorem tl_Tt_stackParts_6_13 {p : Program} {l : Launch} {e : Env} {s : State} {m : MethodId} {args : Array Value} {below : List Frame} {meth : Method} {c : Code} {A : Nat → Prop} {D : va_G} {K : Nat → ClassId} (a_self : Nat → Nat) (X : gx p s m args c b_Tt_stackParts 6 R_Tt w_Tt_stackParts D classes (tyK K) A) (hr : meth.sig.returnType = some .int) (hlk : meth.locks = false) (N : Nat) (r : Int32) (f_self : Nat → Nat → Int32) (v1 : Int32) (kx49 : (Nat → Nat → Int32) → Int32 → Option ((Int32) × (Nat → Nat → Int32))) (hkx49 : ∀ (s_self : Nat → Nat → Int32) (v4 : Int32), kx49 s_self v4 = some (r, f_self) → Gd p l e rm_Tt_stackParts_6 s m args below meth c 0 0 (MQ below (sq D classes (tyK K) (some (.int r)) [wd_Tt K a_self f_self] A) args s 0 0 A) D classes A 6 49 [wd_Tt K a_self s_self] [(4, .int v4)] []) : ∀ (n : Nat) (s_self : Nat → Nat → Int32) (v4 v5 : Int32), l_Tt_stackParts_6_13 N v1 kx49 n s_self v4 v5 = some (r, f_self) → Gd p l e rm_Tt_stackParts_6 s m args below meth c 0 0 (MQ below (sq D classes (tyK K) (some (.int r)) [wd_Tt K a_self f_self] A) args s 0 0 A) D classes A 6 13 [wd_Tt K a_self s_self] [(0, .ref (a_self 0)), (1, .int v1), (2, .ref (a_self 6)), (4, .int v4), (5, .int v5)] [] := by
  intro n
  induction n with
  | zero => intro s_self v4 v5 h; have h : (none : Option ((Int32) × (Nat → Nat → Int32))) = some _ := h; cases h
  | succ n ih =>
    intro s_self v4 v5 h
    exact t_Tt_stackParts_6_13 a_self X hr hlk N r f_self s_self v1 v4 v5 (l_Tt_stackParts_6_13 N v1 kx49 n) ih kx49 hkx49 h
def f_Tt_stackParts_6_0 (N : Nat) (s_self : Nat → Nat → Int32) (v1 v3 : Int32) : Option ((Int32) × (Nat → Nat → Int32)) :=
  ck v1 937 <|
  nm ((s_self 3 (Int32.toNatClampNeg v1)) - 1) fun v5_2 =>
  l_Tt_stackParts_6_13 N v1 (fun s_self v4 => f_Tt_stackParts_6_49 N s_self v4) N s_self v3 v5_2
set_option maxHeartbeats 4000000 in
set_option maxRecDepth 100000 in
theorem t_Tt_stackParts_6_0 {p : Program} {l : Launch} {e : Env} {s : State} {m : MethodId} {args : Array Value} {below : List Frame} {meth : Method} {c : Code} {A : Nat → Prop} {D : va_G} {K : Nat → ClassId} (a_self : Nat → Nat) (X : gx p s m args c b_Tt_stackParts 6 R_Tt w_Tt_stackParts D classes (tyK K) A) (hr : meth.sig.returnType = some .int) (hlk : meth.locks = false) (N : Nat) (r : Int32) (f_self : Nat → Nat → Int32) (s_self : Nat → Nat → Int32) (v1 v3 : Int32) (h : f_Tt_stackParts_6_0 N s_self v1 v3 = some (r, f_self)) : Gd p l e rm_Tt_stackParts_6 s m args below meth c 0 0 (MQ below (sq D classes (tyK K) (some (.int r)) [wd_Tt K a_self f_self] A) args s 0 0 A) D classes A 6 0 [wd_Tt K a_self s_self] [(0, .ref (a_self 0)), (1, .int v1), (2, .ref (a_self 6)), (3, .int v3)] [] := by
  unfold f_Tt_stackParts_6_0 at h
  refine gd_iload_n X d_Tt_stackParts_0 3 rfl ?_
  refine gd_istore X (lv' := [(4, .int v3), (0, .ref (a_self 0)), (1, .int v1), (2, .ref (a_self 6)), (3, .int v3)]) d_Tt_stackParts_1 (by decide) rfl ?_
  refine gd_aload_n X d_Tt_stackParts_3 1 rfl ?_
  refine gd_get X (ci := 2) (C := R_Tt) (T := F_Tt) (N := 6) (v := .ref (a_self 3)) 0 0 rfl rfl rfl (in_Tt _) 2 (by decide) (List.mem_cons_of_mem _ fl_Tt_18) rfl rfl d_Tt_stackParts_4 ?_
  refine gd_iload_n X d_Tt_stackParts_7 2 rfl ?_
  obtain ⟨hi_1, h⟩ := ck_e h
  refine gd_iald X 0 3 0 rfl rfl rfl hi_1 d_Tt_stackParts_8 ?_
  refine gd_iconst X (v := 1) d_Tt_stackParts_9 (by decide) ?_
  refine gd_isub X d_Tt_stackParts_10 ?_
  obtain ⟨v5_2, ev5_2, h⟩ := nm_e' h
  refine gd_topi ev5_2 ?_
  refine gd_istore X (lv' := [(5, .int v5_2), (4, .int v3), (0, .ref (a_self 0)), (1, .int v1), (2, .ref (a_self 6)), (3, .int v3)]) d_Tt_stackParts_11 (by decide) rfl ?_
  refine gd_loc (lv' := [(0, .ref (a_self 0)), (1, .int v1), (2, .ref (a_self 6)), (4, .int v3), (5, .int v5_2)]) [2, 3, 4, 1, 0] rfl ?_
  exact tl_Tt_stackParts_6_13 a_self X hr hlk N r f_self v1 (fun s_self v4 => f_Tt_stackParts_6_49 N s_self v4) (fun s_self v4 h => t_Tt_stackParts_6_49 a_self X hr hlk N r f_self s_self v4 h) N s_self v3 v5_2 h
def m_Tt_stackParts_6 (N : Nat) (s_self : Nat → Nat → Int32) (v1 v3 : Int32) : Option ((Int32) × (Nat → Nat → Int32)) := f_Tt_stackParts_6_0 N s_self v1 v3
set_option maxHeartbeats 4000000 in
set_option maxRecDepth 100000 in
theorem c_Tt_stackParts_6 (l : Launch) (D : va_G) (K : Nat → ClassId) (a_self : Nat → Nat) (N : Nat) (s_self : Nat → Nat → Int32) (v1 v3 : Int32) (r : Int32) (f_self : Nat → Nat → Int32) (h : m_Tt_stackParts_6 N s_self v1 v3 = some (r, f_self)) : SMet l y_Tt_stackParts w_Tt_stackParts rm_Tt_stackParts_6 D classes (tyK K) [.ref (a_self 0), .int v1, .ref (a_self 6), .int v3] (some (.int r)) [wd_Tt K a_self s_self] [wd_Tt K a_self f_self] := by
  refine sm_of R_Tt (by decide) rfl rfl (Nat.le_of_ble_eq_true rfl) ?_
  intro p e s m below meth c A X hr hlk
  refine gd_loc (lv' := [(0, .ref (a_self 0)), (1, .int v1), (2, .ref (a_self 6)), (3, .int v3)]) [0, 1, 2, 3] rfl ?_
  exact t_Tt_stackParts_6_0 a_self X hr hlk N r f_self s_self v1 v3 h
abbrev b_Tt_isLess : ByteArray := prog_7_method_12_code
def y_Tt_isLess : MethodName := ⟨R_Tt, "isLess", "(II)Z"⟩
def w_Tt_isLess : List Cond := .code y_Tt_isLess b_Tt_isLess 7 (some .boolean) :: TB
theorem k_Tt_isLess : Cond.code y_Tt_isLess b_Tt_isLess 7 (some .boolean) ∈ TB := tb_of 466 (by decide +kernel) (by decide +kernel)
theorem d_Tt_isLess_0 : decode b_Tt_isLess 0 = .ok (.aload_n 0, 1) := by decide +kernel
theorem d_Tt_isLess_1 : decode b_Tt_isLess 1 = .ok (.getfield 11, 3) := by decide +kernel
theorem d_Tt_isLess_4 : decode b_Tt_isLess 4 = .ok (.iload_n 1, 1) := by decide +kernel
theorem d_Tt_isLess_5 : decode b_Tt_isLess 5 = .ok (.iaload, 1) := by decide +kernel
theorem d_Tt_isLess_6 : decode b_Tt_isLess 6 = .ok (.aload_n 0, 1) := by decide +kernel
theorem d_Tt_isLess_7 : decode b_Tt_isLess 7 = .ok (.getfield 11, 3) := by decide +kernel
theorem d_Tt_isLess_10 : decode b_Tt_isLess 10 = .ok (.iload_n 2, 1) := by decide +kernel
theorem d_Tt_isLess_11 : decode b_Tt_isLess 11 = .ok (.iaload, 1) := by decide +kernel
theorem d_Tt_isLess_12 : decode b_Tt_isLess 12 = .ok (.if_icmp .eq 24, 3) := by decide +kernel
theorem d_Tt_isLess_15 : decode b_Tt_isLess 15 = .ok (.aload_n 0, 1) := by decide +kernel
theorem d_Tt_isLess_16 : decode b_Tt_isLess 16 = .ok (.getfield 11, 3) := by decide +kernel
theorem d_Tt_isLess_19 : decode b_Tt_isLess 19 = .ok (.iload_n 1, 1) := by decide +kernel
theorem d_Tt_isLess_20 : decode b_Tt_isLess 20 = .ok (.iaload, 1) := by decide +kernel
theorem d_Tt_isLess_21 : decode b_Tt_isLess 21 = .ok (.aload_n 0, 1) := by decide +kernel
theorem d_Tt_isLess_22 : decode b_Tt_isLess 22 = .ok (.getfield 11, 3) := by decide +kernel
theorem d_Tt_isLess_25 : decode b_Tt_isLess 25 = .ok (.iload_n 2, 1) := by decide +kernel
theorem d_Tt_isLess_26 : decode b_Tt_isLess 26 = .ok (.iaload, 1) := by decide +kernel
theorem d_Tt_isLess_27 : decode b_Tt_isLess 27 = .ok (.if_icmp .ge 7, 3) := by decide +kernel
theorem d_Tt_isLess_30 : decode b_Tt_isLess 30 = .ok (.iconst 1, 1) := by decide +kernel
theorem d_Tt_isLess_31 : decode b_Tt_isLess 31 = .ok (.goto 4, 3) := by decide +kernel
theorem d_Tt_isLess_34 : decode b_Tt_isLess 34 = .ok (.iconst 0, 1) := by decide +kernel
theorem d_Tt_isLess_35 : decode b_Tt_isLess 35 = .ok (.ireturn, 1) := by decide +kernel
theorem d_Tt_isLess_36 : decode b_Tt_isLess 36 = .ok (.iconst 1, 1) := by decide +kernel
theorem d_Tt_isLess_37 : decode b_Tt_isLess 37 = .ok (.istore_n 3, 1) := by decide +kernel
theorem d_Tt_isLess_38 : decode b_Tt_isLess 38 = .ok (.aload_n 0, 1) := by decide +kernel
theorem d_Tt_isLess_39 : decode b_Tt_isLess 39 = .ok (.getfield 24, 3) := by decide +kernel
theorem d_Tt_isLess_42 : decode b_Tt_isLess 42 = .ok (.iconst 0, 1) := by decide +kernel
theorem d_Tt_isLess_43 : decode b_Tt_isLess 43 = .ok (.iload_n 1, 1) := by decide +kernel
theorem d_Tt_isLess_44 : decode b_Tt_isLess 44 = .ok (.iastore, 1) := by decide +kernel
theorem d_Tt_isLess_45 : decode b_Tt_isLess 45 = .ok (.aload_n 0, 1) := by decide +kernel
theorem d_Tt_isLess_46 : decode b_Tt_isLess 46 = .ok (.getfield 27, 3) := by decide +kernel
theorem d_Tt_isLess_49 : decode b_Tt_isLess 49 = .ok (.iconst 0, 1) := by decide +kernel
theorem d_Tt_isLess_50 : decode b_Tt_isLess 50 = .ok (.iload_n 2, 1) := by decide +kernel
theorem d_Tt_isLess_51 : decode b_Tt_isLess 51 = .ok (.iastore, 1) := by decide +kernel
theorem d_Tt_isLess_52 : decode b_Tt_isLess 52 = .ok (.iconst 0, 1) := by decide +kernel
theorem d_Tt_isLess_53 : decode b_Tt_isLess 53 = .ok (.istore 4, 2) := by decide +kernel
theorem d_Tt_isLess_55 : decode b_Tt_isLess 55 = .ok (.iload 4, 2) := by decide +kernel
theorem d_Tt_isLess_57 : decode b_Tt_isLess 57 = .ok (.sipush 150, 3) := by decide +kernel
theorem d_Tt_isLess_60 : decode b_Tt_isLess 60 = .ok (.if_icmp .ge 103, 3) := by decide +kernel
theorem d_Tt_isLess_63 : decode b_Tt_isLess 63 = .ok (.iload_n 3, 1) := by decide +kernel
theorem d_Tt_isLess_64 : decode b_Tt_isLess 64 = .ok (.ifCond .le 99, 3) := by decide +kernel
theorem d_Tt_isLess_67 : decode b_Tt_isLess 67 = .ok (.iinc 3 (-1), 3) := by decide +kernel
theorem d_Tt_isLess_70 : decode b_Tt_isLess 70 = .ok (.aload_n 0, 1) := by decide +kernel
theorem d_Tt_isLess_71 : decode b_Tt_isLess 71 = .ok (.getfield 24, 3) := by decide +kernel
theorem d_Tt_isLess_74 : decode b_Tt_isLess 74 = .ok (.iload_n 3, 1) := by decide +kernel
theorem d_Tt_isLess_75 : decode b_Tt_isLess 75 = .ok (.iaload, 1) := by decide +kernel
theorem d_Tt_isLess_76 : decode b_Tt_isLess 76 = .ok (.istore 5, 2) := by decide +kernel
theorem d_Tt_isLess_78 : decode b_Tt_isLess 78 = .ok (.aload_n 0, 1) := by decide +kernel
theorem d_Tt_isLess_79 : decode b_Tt_isLess 79 = .ok (.getfield 27, 3) := by decide +kernel
theorem d_Tt_isLess_82 : decode b_Tt_isLess 82 = .ok (.iload_n 3, 1) := by decide +kernel
theorem d_Tt_isLess_83 : decode b_Tt_isLess 83 = .ok (.iaload, 1) := by decide +kernel
theorem d_Tt_isLess_84 : decode b_Tt_isLess 84 = .ok (.istore 6, 2) := by decide +kernel
theorem d_Tt_isLess_86 : decode b_Tt_isLess 86 = .ok (.aload_n 0, 1) := by decide +kernel
theorem d_Tt_isLess_87 : decode b_Tt_isLess 87 = .ok (.getfield 15, 3) := by decide +kernel
theorem d_Tt_isLess_90 : decode b_Tt_isLess 90 = .ok (.iload 5, 2) := by decide +kernel
theorem d_Tt_isLess_92 : decode b_Tt_isLess 92 = .ok (.iaload, 1) := by decide +kernel
theorem d_Tt_isLess_93 : decode b_Tt_isLess 93 = .ok (.aload_n 0, 1) := by decide +kernel
theorem d_Tt_isLess_94 : decode b_Tt_isLess 94 = .ok (.getfield 15, 3) := by decide +kernel
theorem d_Tt_isLess_97 : decode b_Tt_isLess 97 = .ok (.iload 6, 2) := by decide +kernel
theorem d_Tt_isLess_99 : decode b_Tt_isLess 99 = .ok (.iaload, 1) := by decide +kernel
theorem d_Tt_isLess_100 : decode b_Tt_isLess 100 = .ok (.if_icmp .eq 26, 3) := by decide +kernel
theorem d_Tt_isLess_103 : decode b_Tt_isLess 103 = .ok (.aload_n 0, 1) := by decide +kernel
theorem d_Tt_isLess_104 : decode b_Tt_isLess 104 = .ok (.getfield 15, 3) := by decide +kernel
theorem d_Tt_isLess_107 : decode b_Tt_isLess 107 = .ok (.iload 5, 2) := by decide +kernel
theorem d_Tt_isLess_109 : decode b_Tt_isLess 109 = .ok (.iaload, 1) := by decide +kernel
theorem d_Tt_isLess_110 : decode b_Tt_isLess 110 = .ok (.aload_n 0, 1) := by decide +kernel
theorem d_Tt_isLess_111 : decode b_Tt_isLess 111 = .ok (.getfield 15, 3) := by decide +kernel
theorem d_Tt_isLess_114 : decode b_Tt_isLess 114 = .ok (.iload 6, 2) := by decide +kernel
theorem d_Tt_isLess_116 : decode b_Tt_isLess 116 = .ok (.iaload, 1) := by decide +kernel
theorem d_Tt_isLess_117 : decode b_Tt_isLess 117 = .ok (.if_icmp .ge 7, 3) := by decide +kernel
theorem d_Tt_isLess_120 : decode b_Tt_isLess 120 = .ok (.iconst 1, 1) := by decide +kernel
theorem d_Tt_isLess_121 : decode b_Tt_isLess 121 = .ok (.goto 4, 3) := by decide +kernel
theorem d_Tt_isLess_124 : decode b_Tt_isLess 124 = .ok (.iconst 0, 1) := by decide +kernel
theorem d_Tt_isLess_125 : decode b_Tt_isLess 125 = .ok (.ireturn, 1) := by decide +kernel
theorem d_Tt_isLess_126 : decode b_Tt_isLess 126 = .ok (.iload 5, 2) := by decide +kernel
theorem d_Tt_isLess_128 : decode b_Tt_isLess 128 = .ok (.iload 6, 2) := by decide +kernel
theorem d_Tt_isLess_130 : decode b_Tt_isLess 130 = .ok (.if_icmp .eq 27, 3) := by decide +kernel
theorem d_Tt_isLess_133 : decode b_Tt_isLess 133 = .ok (.aload_n 0, 1) := by decide +kernel
theorem d_Tt_isLess_134 : decode b_Tt_isLess 134 = .ok (.iload 6, 2) := by decide +kernel
theorem d_Tt_isLess_136 : decode b_Tt_isLess 136 = .ok (.aload_n 0, 1) := by decide +kernel
theorem d_Tt_isLess_137 : decode b_Tt_isLess 137 = .ok (.getfield 27, 3) := by decide +kernel
theorem d_Tt_isLess_140 : decode b_Tt_isLess 140 = .ok (.iload_n 3, 1) := by decide +kernel
theorem d_Tt_isLess_141 : decode b_Tt_isLess 141 = .ok (.invokevirtual 67, 3) := by decide +kernel
theorem d_Tt_isLess_144 : decode b_Tt_isLess 144 = .ok (.pop, 1) := by decide +kernel
theorem d_Tt_isLess_145 : decode b_Tt_isLess 145 = .ok (.aload_n 0, 1) := by decide +kernel
theorem d_Tt_isLess_146 : decode b_Tt_isLess 146 = .ok (.iload 5, 2) := by decide +kernel
theorem d_Tt_isLess_148 : decode b_Tt_isLess 148 = .ok (.aload_n 0, 1) := by decide +kernel
theorem d_Tt_isLess_149 : decode b_Tt_isLess 149 = .ok (.getfield 24, 3) := by decide +kernel
theorem d_Tt_isLess_152 : decode b_Tt_isLess 152 = .ok (.iload_n 3, 1) := by decide +kernel
theorem d_Tt_isLess_153 : decode b_Tt_isLess 153 = .ok (.invokevirtual 67, 3) := by decide +kernel
theorem d_Tt_isLess_156 : decode b_Tt_isLess 156 = .ok (.istore_n 3, 1) := by decide +kernel
theorem d_Tt_isLess_157 : decode b_Tt_isLess 157 = .ok (.iinc 4 1, 3) := by decide +kernel
theorem d_Tt_isLess_160 : decode b_Tt_isLess 160 = .ok (.goto (-105), 3) := by decide +kernel
theorem d_Tt_isLess_163 : decode b_Tt_isLess 163 = .ok (.iconst 0, 1) := by decide +kernel
theorem d_Tt_isLess_164 : decode b_Tt_isLess 164 = .ok (.ireturn, 1) := by decide +kernel
theorem fl_Tt_24 : Cond.fieldLink R_Tt 24 "RuleTrees$TreeTable" "leftStack" "[I" ∈ TB := tb_of 145 (by decide +kernel) (by decide +kernel)
theorem fl_Tt_27 : Cond.fieldLink R_Tt 27 "RuleTrees$TreeTable" "rightStack" "[I" ∈ TB := tb_of 146 (by decide +kernel) (by decide +kernel)
theorem ml_Tt_67 : Cond.methodLink R_Tt 67 ⟨"RuleTrees$TreeTable", "stackParts", "(I[II)I"⟩ ∈ TB := tb_of 467 (by decide +kernel) (by decide +kernel)
theorem u_Tt_stackParts : (Cond.instanceMethod y_Tt_stackParts ∈ TB ∧ Cond.selects R_Tt y_Tt_stackParts y_Tt_stackParts ∈ TB) ∧ Cond.initialized R_Tt ∈ TB ∧ Cond.code y_Tt_stackParts b_Tt_stackParts 6 (some .int) ∈ TB := ⟨⟨(tb_of 469 (by decide +kernel) (by decide +kernel)), (tb_of 10 (by decide +kernel) (by decide +kernel))⟩, (tb_of 65 (by decide +kernel) (by decide +kernel)), k_Tt_stackParts⟩
abbrev rm_Tt_isLess : Room := { frames := 1, cells := 0, slots := 0, locals := 25 }
def f_Tt_isLess_55 (N : Nat) (kb : (Nat → Nat → Int32) → Int32 → Int32 → Option ((Int32) × (Nat → Nat → Int32))) (kx103 : (Nat → Nat → Int32) → Int32 → Int32 → Option ((Int32) × (Nat → Nat → Int32))) (kx163 : (Nat → Nat → Int32) → Option ((Int32) × (Nat → Nat → Int32))) (s_self : Nat → Nat → Int32) (v3 v4 : Int32) : Option ((Int32) × (Nat → Nat → Int32)) :=
  if 150 ≤ v4 then
    kx163 s_self
  else
    if v3 ≤ 0 then
      kx163 s_self
    else
      nm (v3 + (-1)) fun v3_3 =>
      ck v3_3 150 <|
      nm (s_self 5 (Int32.toNatClampNeg v3_3)) fun v5_5 =>
      ck v3_3 150 <|
      nm (s_self 6 (Int32.toNatClampNeg v3_3)) fun v6_7 =>
      ck v5_5 937 <|
      ck v6_7 937 <|
      if (s_self 2 (Int32.toNatClampNeg v5_5)) = (s_self 2 (Int32.toNatClampNeg v6_7)) then
        if v5_5 = v6_7 then
          nm (v4 + 1) fun v4_12 =>
          kb s_self v3_3 v4_12
        else
          bd2 (m_Tt_stackParts_6 N s_self v6_7 v3_3) fun r_13 s_self_14 =>
          bd2 (m_Tt_stackParts_5 N s_self_14 v5_5 v3_3) fun r_16 s_self_17 =>
          nm (v4 + 1) fun v4_19 =>
          kb s_self_17 r_16 v4_19
      else
        kx103 s_self v5_5 v6_7
set_option maxHeartbeats 4000000 in
set_option maxRecDepth 100000 in
theorem t_Tt_isLess_55 {p : Program} {l : Launch} {e : Env} {s : State} {m : MethodId} {args : Array Value} {below : List Frame} {meth : Method} {c : Code} {A : Nat → Prop} {D : va_G} {K : Nat → ClassId} (a_self : Nat → Nat) (X : gx p s m args c b_Tt_isLess 7 R_Tt w_Tt_isLess D classes (tyK K) A) (hr : meth.sig.returnType = some .boolean) (hlk : meth.locks = false) (N : Nat) (r : Int32) (f_self : Nat → Nat → Int32) (s_self : Nat → Nat → Int32) (v3 v4 : Int32) (kb : (Nat → Nat → Int32) → Int32 → Int32 → Option ((Int32) × (Nat → Nat → Int32))) (hkb : ∀ (s_self : Nat → Nat → Int32) (v3 v4 : Int32), kb s_self v3 v4 = some (r, f_self) → Gd p l e rm_Tt_isLess s m args below meth c 0 0 (MQ below (sq D classes (tyK K) (some (.int r)) [wd_Tt K a_self f_self] A) args s 0 0 A) D classes A 7 55 [wd_Tt K a_self s_self] [(0, .ref (a_self 0)), (3, .int v3), (4, .int v4)] []) (kx103 : (Nat → Nat → Int32) → Int32 → Int32 → Option ((Int32) × (Nat → Nat → Int32))) (hkx103 : ∀ (s_self : Nat → Nat → Int32) (v5 v6 : Int32), kx103 s_self v5 v6 = some (r, f_self) → Gd p l e rm_Tt_isLess s m args below meth c 0 0 (MQ below (sq D classes (tyK K) (some (.int r)) [wd_Tt K a_self f_self] A) args s 0 0 A) D classes A 7 103 [wd_Tt K a_self s_self] [(0, .ref (a_self 0)), (5, .int v5), (6, .int v6)] []) (kx163 : (Nat → Nat → Int32) → Option ((Int32) × (Nat → Nat → Int32))) (hkx163 : ∀ (s_self : Nat → Nat → Int32), kx163 s_self = some (r, f_self) → Gd p l e rm_Tt_isLess s m args below meth c 0 0 (MQ below (sq D classes (tyK K) (some (.int r)) [wd_Tt K a_self f_self] A) args s 0 0 A) D classes A 7 163 [wd_Tt K a_self s_self] [] []) (h : f_Tt_isLess_55 N kb kx103 kx163 s_self v3 v4 = some (r, f_self)) : Gd p l e rm_Tt_isLess s m args below meth c 0 0 (MQ below (sq D classes (tyK K) (some (.int r)) [wd_Tt K a_self f_self] A) args s 0 0 A) D classes A 7 55 [wd_Tt K a_self s_self] [(0, .ref (a_self 0)), (3, .int v3), (4, .int v4)] [] := by
  unfold f_Tt_isLess_55 at h
  refine gd_iload X d_Tt_isLess_55 2 rfl ?_
  refine gd_sipush X (v := 150) d_Tt_isLess_57 (by decide) ?_
  refine gd_icmp_ge X (tgt := 163) d_Tt_isLess_60 (by decide) (fun c_1 => ?_) (fun c_1 => ?_)
  · replace h := it_p c_1 h
    refine gd_loc (lv' := []) [] rfl ?_
    exact hkx163 s_self h
  · replace h := it_n c_1 h
    refine gd_iload_n X d_Tt_isLess_63 1 rfl ?_
    refine gd_if_le X (tgt := 163) d_Tt_isLess_64 (by decide) (fun c_2 => ?_) (fun c_2 => ?_)
    · replace h := it_p c_2 h
      refine gd_loc (lv' := []) [] rfl ?_
      exact hkx163 s_self h
    · replace h := it_n c_2 h
      obtain ⟨v3_3, ev3_3, h⟩ := nm_e' h
      refine gd_iinc X (v := v3_3) (lv' := [(3, .int v3_3), (0, .ref (a_self 0)), (4, .int v4)]) d_Tt_isLess_67 (k := 1) rfl (by rw [ev3_3, show Int32.ofInt (-1) = (-1) from by decide]) (by decide) rfl ?_
      refine gd_aload_n X d_Tt_isLess_70 1 rfl ?_
      refine gd_get X (ci := 2) (C := R_Tt) (T := F_Tt) (N := 6) (v := .ref (a_self 5)) 0 0 rfl rfl rfl (in_Tt _) 4 (by decide) (List.mem_cons_of_mem _ fl_Tt_24) rfl rfl d_Tt_isLess_71 ?_
      refine gd_iload_n X d_Tt_isLess_74 0 rfl ?_
      obtain ⟨hi_4, h⟩ := ck_e h
      refine gd_iald X 0 5 0 rfl rfl rfl hi_4 d_Tt_isLess_75 ?_
      obtain ⟨v5_5, ev5_5, h⟩ := nm_e' h
      refine gd_topi ev5_5 ?_
      refine gd_istore X (lv' := [(5, .int v5_5), (3, .int v3_3), (0, .ref (a_self 0)), (4, .int v4)]) d_Tt_isLess_76 (by decide) rfl ?_
      refine gd_aload_n X d_Tt_isLess_78 2 rfl ?_
      refine gd_get X (ci := 2) (C := R_Tt) (T := F_Tt) (N := 6) (v := .ref (a_self 6)) 0 0 rfl rfl rfl (in_Tt _) 5 (by decide) (List.mem_cons_of_mem _ fl_Tt_27) rfl rfl d_Tt_isLess_79 ?_
      refine gd_iload_n X d_Tt_isLess_82 1 rfl ?_
      obtain ⟨hi_6, h⟩ := ck_e h
      refine gd_iald X 0 6 0 rfl rfl rfl hi_6 d_Tt_isLess_83 ?_
      obtain ⟨v6_7, ev6_7, h⟩ := nm_e' h
      refine gd_topi ev6_7 ?_
      refine gd_istore X (lv' := [(6, .int v6_7), (5, .int v5_5), (3, .int v3_3), (0, .ref (a_self 0)), (4, .int v4)]) d_Tt_isLess_84 (by decide) rfl ?_
      refine gd_aload_n X d_Tt_isLess_86 3 rfl ?_
      refine gd_get X (ci := 2) (C := R_Tt) (T := F_Tt) (N := 6) (v := .ref (a_self 2)) 0 0 rfl rfl rfl (in_Tt _) 1 (by decide) (List.mem_cons_of_mem _ fl_Tt_15) rfl rfl d_Tt_isLess_87 ?_
      refine gd_iload X d_Tt_isLess_90 1 rfl ?_
      obtain ⟨hi_8, h⟩ := ck_e h
      refine gd_iald X 0 2 0 rfl rfl rfl hi_8 d_Tt_isLess_92 ?_
      refine gd_aload_n X d_Tt_isLess_93 3 rfl ?_
      refine gd_get X (ci := 2) (C := R_Tt) (T := F_Tt) (N := 6) (v := .ref (a_self 2)) 0 0 rfl rfl rfl (in_Tt _) 1 (by decide) (List.mem_cons_of_mem _ fl_Tt_15) rfl rfl d_Tt_isLess_94 ?_
      refine gd_iload X d_Tt_isLess_97 0 rfl ?_
      obtain ⟨hi_9, h⟩ := ck_e h
      refine gd_iald X 0 2 0 rfl rfl rfl hi_9 d_Tt_isLess_99 ?_
      refine gd_icmp_eq X (tgt := 126) d_Tt_isLess_100 (by decide) (fun c_10 => ?_) (fun c_10 => ?_)
      · replace h := it_p c_10 h
        refine gd_iload X d_Tt_isLess_126 1 rfl ?_
        refine gd_iload X d_Tt_isLess_128 0 rfl ?_
        refine gd_icmp_eq X (tgt := 157) d_Tt_isLess_130 (by decide) (fun c_11 => ?_) (fun c_11 => ?_)
        · replace h := it_p c_11 h
          obtain ⟨v4_12, ev4_12, h⟩ := nm_e' h
          refine gd_iinc X (v := v4_12) (lv' := [(4, .int v4_12), (6, .int v6_7), (5, .int v5_5), (3, .int v3_3), (0, .ref (a_self 0))]) d_Tt_isLess_157 (k := 4) rfl (by rw [ev4_12]; rfl) (by decide) rfl ?_
          refine gd_goto X (tgt := 55) d_Tt_isLess_160 (by decide) ?_
          refine gd_loc (lv' := [(0, .ref (a_self 0)), (3, .int v3_3), (4, .int v4_12)]) [4, 3, 0] rfl ?_
          exact hkb s_self v3_3 v4_12 h
        · replace h := it_n c_11 h
          refine gd_aload_n X d_Tt_isLess_133 3 rfl ?_
          refine gd_iload X d_Tt_isLess_134 0 rfl ?_
          refine gd_aload_n X d_Tt_isLess_136 3 rfl ?_
          refine gd_get X (ci := 2) (C := R_Tt) (T := F_Tt) (N := 6) (v := .ref (a_self 6)) 0 0 rfl rfl rfl (in_Tt _) 5 (by decide) (List.mem_cons_of_mem _ fl_Tt_27) rfl rfl d_Tt_isLess_137 ?_
          refine gd_iload_n X d_Tt_isLess_140 2 rfl ?_
          obtain ⟨r_13, s_self_14, hc_15, h⟩ := bd2_e h
          refine gd_fI X (w1 := [wd_Tt K a_self s_self_14]) (gd_V X (As := [.int v6_7, .ref (a_self 6), .int v3_3]) (rest := []) (c_Tt_stackParts_6 l D K a_self N s_self v6_7 v3_3 r_13 s_self_14 hc_15) 3 (gi_V ml_Tt_67 u_Tt_stackParts) rfl ⟨rfl, rfl⟩ (by decide +kernel) ⟨by decide, by decide⟩ (ci := 2) rfl rfl rfl rfl rfl rfl (Nat.le_of_ble_eq_true rfl) ⟨Nat.zero_le _, Nat.zero_le _⟩ d_Tt_isLess_141) ?_
          refine gd_pop X d_Tt_isLess_144 rfl ?_
          refine gd_aload_n X d_Tt_isLess_145 3 rfl ?_
          refine gd_iload X d_Tt_isLess_146 1 rfl ?_
          refine gd_aload_n X d_Tt_isLess_148 3 rfl ?_
          refine gd_get X (ci := 2) (C := R_Tt) (T := F_Tt) (N := 6) (v := .ref (a_self 5)) 0 0 rfl rfl rfl (in_Tt _) 4 (by decide) (List.mem_cons_of_mem _ fl_Tt_24) rfl rfl d_Tt_isLess_149 ?_
          refine gd_iload_n X d_Tt_isLess_152 2 rfl ?_
          obtain ⟨r_16, s_self_17, hc_18, h⟩ := bd2_e h
          refine gd_fI X (w1 := [wd_Tt K a_self s_self_17]) (gd_V X (As := [.int v5_5, .ref (a_self 5), .int v3_3]) (rest := []) (c_Tt_stackParts_5 l D K a_self N s_self_14 v5_5 v3_3 r_16 s_self_17 hc_18) 3 (gi_V ml_Tt_67 u_Tt_stackParts) rfl ⟨rfl, rfl⟩ (by decide +kernel) ⟨by decide, by decide⟩ (ci := 2) rfl rfl rfl rfl rfl rfl (Nat.le_of_ble_eq_true rfl) ⟨Nat.zero_le _, Nat.zero_le _⟩ d_Tt_isLess_153) ?_
          refine gd_istore_n X (lv' := [(3, .int r_16), (6, .int v6_7), (5, .int v5_5), (0, .ref (a_self 0)), (4, .int v4)]) d_Tt_isLess_156 rfl (by decide) rfl ?_
          obtain ⟨v4_19, ev4_19, h⟩ := nm_e' h
          refine gd_iinc X (v := v4_19) (lv' := [(4, .int v4_19), (3, .int r_16), (6, .int v6_7), (5, .int v5_5), (0, .ref (a_self 0))]) d_Tt_isLess_157 (k := 4) rfl (by rw [ev4_19]; rfl) (by decide) rfl ?_
          refine gd_goto X (tgt := 55) d_Tt_isLess_160 (by decide) ?_
          refine gd_loc (lv' := [(0, .ref (a_self 0)), (3, .int r_16), (4, .int v4_19)]) [4, 1, 0] rfl ?_
          exact hkb s_self_17 r_16 v4_19 h
      · replace h := it_n c_10 h
        refine gd_loc (lv' := [(0, .ref (a_self 0)), (5, .int v5_5), (6, .int v6_7)]) [3, 1, 0] rfl ?_
        exact hkx103 s_self v5_5 v6_7 h
def f_Tt_isLess_103 (N : Nat) (s_self : Nat → Nat → Int32) (v5 v6 : Int32) : Option ((Int32) × (Nat → Nat → Int32)) :=
  ck v5 937 <|
  ck v6 937 <|
  if (s_self 2 (Int32.toNatClampNeg v6)) ≤ (s_self 2 (Int32.toNatClampNeg v5)) then
    some ((0), s_self)
  else
    some ((1), s_self)
set_option maxHeartbeats 4000000 in
set_option maxRecDepth 100000 in
theorem t_Tt_isLess_103 {p : Program} {l : Launch} {e : Env} {s : State} {m : MethodId} {args : Array Value} {below : List Frame} {meth : Method} {c : Code} {A : Nat → Prop} {D : va_G} {K : Nat → ClassId} (a_self : Nat → Nat) (X : gx p s m args c b_Tt_isLess 7 R_Tt w_Tt_isLess D classes (tyK K) A) (hr : meth.sig.returnType = some .boolean) (hlk : meth.locks = false) (N : Nat) (r : Int32) (f_self : Nat → Nat → Int32) (s_self : Nat → Nat → Int32) (v5 v6 : Int32) (h : f_Tt_isLess_103 N s_self v5 v6 = some (r, f_self)) : Gd p l e rm_Tt_isLess s m args below meth c 0 0 (MQ below (sq D classes (tyK K) (some (.int r)) [wd_Tt K a_self f_self] A) args s 0 0 A) D classes A 7 103 [wd_Tt K a_self s_self] [(0, .ref (a_self 0)), (5, .int v5), (6, .int v6)] [] := by
  unfold f_Tt_isLess_103 at h
  refine gd_aload_n X d_Tt_isLess_103 0 rfl ?_
  refine gd_get X (ci := 2) (C := R_Tt) (T := F_Tt) (N := 6) (v := .ref (a_self 2)) 0 0 rfl rfl rfl (in_Tt _) 1 (by decide) (List.mem_cons_of_mem _ fl_Tt_15) rfl rfl d_Tt_isLess_104 ?_
  refine gd_iload X d_Tt_isLess_107 1 rfl ?_
  obtain ⟨hi_1, h⟩ := ck_e h
  refine gd_iald X 0 2 0 rfl rfl rfl hi_1 d_Tt_isLess_109 ?_
  refine gd_aload_n X d_Tt_isLess_110 0 rfl ?_
  refine gd_get X (ci := 2) (C := R_Tt) (T := F_Tt) (N := 6) (v := .ref (a_self 2)) 0 0 rfl rfl rfl (in_Tt _) 1 (by decide) (List.mem_cons_of_mem _ fl_Tt_15) rfl rfl d_Tt_isLess_111 ?_
  refine gd_iload X d_Tt_isLess_114 2 rfl ?_
  obtain ⟨hi_2, h⟩ := ck_e h
  refine gd_iald X 0 2 0 rfl rfl rfl hi_2 d_Tt_isLess_116 ?_
  refine gd_icmp_ge X (tgt := 124) d_Tt_isLess_117 (by decide) (fun c_3 => ?_) (fun c_3 => ?_)
  · replace h := it_p c_3 h
    refine gd_iconst X (v := 0) d_Tt_isLess_124 (by decide) ?_
    cases h
    exact gd_zret X hr hlk (by decide) d_Tt_isLess_125
  · replace h := it_n c_3 h
    refine gd_iconst X (v := 1) d_Tt_isLess_120 (by decide) ?_
    refine gd_goto X (tgt := 125) d_Tt_isLess_121 (by decide) ?_
    cases h
    exact gd_zret X hr hlk (by decide) d_Tt_isLess_125
def f_Tt_isLess_163 (N : Nat) (s_self : Nat → Nat → Int32) : Option ((Int32) × (Nat → Nat → Int32)) :=
  some ((0), s_self)
set_option maxHeartbeats 4000000 in
set_option maxRecDepth 100000 in
theorem t_Tt_isLess_163 {p : Program} {l : Launch} {e : Env} {s : State} {m : MethodId} {args : Array Value} {below : List Frame} {meth : Method} {c : Code} {A : Nat → Prop} {D : va_G} {K : Nat → ClassId} (a_self : Nat → Nat) (X : gx p s m args c b_Tt_isLess 7 R_Tt w_Tt_isLess D classes (tyK K) A) (hr : meth.sig.returnType = some .boolean) (hlk : meth.locks = false) (N : Nat) (r : Int32) (f_self : Nat → Nat → Int32) (s_self : Nat → Nat → Int32) (h : f_Tt_isLess_163 N s_self = some (r, f_self)) : Gd p l e rm_Tt_isLess s m args below meth c 0 0 (MQ below (sq D classes (tyK K) (some (.int r)) [wd_Tt K a_self f_self] A) args s 0 0 A) D classes A 7 163 [wd_Tt K a_self s_self] [] [] := by
  unfold f_Tt_isLess_163 at h
  refine gd_iconst X (v := 0) d_Tt_isLess_163 (by decide) ?_
  cases h
  exact gd_zret X hr hlk (by decide) d_Tt_isLess_164
def l_Tt_isLess_55 (N : Nat) (kx103 : (Nat → Nat → Int32) → Int32 → Int32 → Option ((Int32) × (Nat → Nat → Int32))) (kx163 : (Nat → Nat → Int32) → Option ((Int32) × (Nat → Nat → Int32))) : Nat → (Nat → Nat → Int32) → Int32 → Int32 → Option ((Int32) × (Nat → Nat → Int32))
  | 0, _, _, _ => none
  | n + 1, s_self, v3, v4 => f_Tt_isLess_55 N (l_Tt_isLess_55 N kx103 kx163 n) kx103 kx163 s_self v3 v4
set_option maxHeartbeats 4000000 in
set_option maxRecDepth 100000 in
theorem tl_Tt_isLess_55 {p : Program} {l : Launch} {e : Env} {s : State} {m : MethodId} {args : Array Value} {below : List Frame} {meth : Method} {c : Code} {A : Nat → Prop} {D : va_G} {K : Nat → ClassId} (a_self : Nat → Nat) (X : gx p s m args c b_Tt_isLess 7 R_Tt w_Tt_isLess D classes (tyK K) A) (hr : meth.sig.returnType = some .boolean) (hlk : meth.locks = false) (N : Nat) (r : Int32) (f_self : Nat → Nat → Int32) (kx103 : (Nat → Nat → Int32) → Int32 → Int32 → Option ((Int32) × (Nat → Nat → Int32))) (hkx103 : ∀ (s_self : Nat → Nat → Int32) (v5 v6 : Int32), kx103 s_self v5 v6 = some (r, f_self) → Gd p l e rm_Tt_isLess s m args below meth c 0 0 (MQ below (sq D classes (tyK K) (some (.int r)) [wd_Tt K a_self f_self] A) args s 0 0 A) D classes A 7 103 [wd_Tt K a_self s_self] [(0, .ref (a_self 0)), (5, .int v5), (6, .int v6)] []) (kx163 : (Nat → Nat → Int32) → Option ((Int32) × (Nat → Nat → Int32))) (hkx163 : ∀ (s_self : Nat → Nat → Int32), kx163 s_self = some (r, f_self) → Gd p l e rm_Tt_isLess s m args below meth c 0 0 (MQ below (sq D classes (tyK K) (some (.int r)) [wd_Tt K a_self f_self] A) args s 0 0 A) D classes A 7 163 [wd_Tt K a_self s_self] [] []) : ∀ (n : Nat) (s_self : Nat → Nat → Int32) (v3 v4 : Int32), l_Tt_isLess_55 N kx103 kx163 n s_self v3 v4 = some (r, f_self) → Gd p l e rm_Tt_isLess s m args below meth c 0 0 (MQ below (sq D classes (tyK K) (some (.int r)) [wd_Tt K a_self f_self] A) args s 0 0 A) D classes A 7 55 [wd_Tt K a_self s_self] [(0, .ref (a_self 0)), (3, .int v3), (4, .int v4)] [] := by
  intro n
  induction n with
  | zero => intro s_self v3 v4 h; have h : (none : Option ((Int32) × (Nat → Nat → Int32))) = some _ := h; cases h
  | succ n ih =>
    intro s_self v3 v4 h
    exact t_Tt_isLess_55 a_self X hr hlk N r f_self s_self v3 v4 (l_Tt_isLess_55 N kx103 kx163 n) ih kx103 hkx103 kx163 hkx163 h
def f_Tt_isLess_0 (N : Nat) (s_self : Nat → Nat → Int32) (v1 v2 : Int32) : Option ((Int32) × (Nat → Nat → Int32)) :=
  ck v1 937 <|
  ck v2 937 <|
  if (s_self 1 (Int32.toNatClampNeg v1)) = (s_self 1 (Int32.toNatClampNeg v2)) then
    ck 0 150 <| nm (st2 s_self 5 (Int32.toNatClampNeg 0) v1) fun s_self_5 =>
    ck 0 150 <| nm (st2 s_self_5 6 (Int32.toNatClampNeg 0) v2) fun s_self_7 =>
    l_Tt_isLess_55 N (fun s_self v5 v6 => f_Tt_isLess_103 N s_self v5 v6) (fun s_self => f_Tt_isLess_163 N s_self) N s_self_7 1 0
  else
    ck v1 937 <|
    ck v2 937 <|
    if (s_self 1 (Int32.toNatClampNeg v2)) ≤ (s_self 1 (Int32.toNatClampNeg v1)) then
      some ((0), s_self)
    else
      some ((1), s_self)
set_option maxHeartbeats 4000000 in
set_option maxRecDepth 100000 in
theorem t_Tt_isLess_0 {p : Program} {l : Launch} {e : Env} {s : State} {m : MethodId} {args : Array Value} {below : List Frame} {meth : Method} {c : Code} {A : Nat → Prop} {D : va_G} {K : Nat → ClassId} (a_self : Nat → Nat) (X : gx p s m args c b_Tt_isLess 7 R_Tt w_Tt_isLess D classes (tyK K) A) (hr : meth.sig.returnType = some .boolean) (hlk : meth.locks = false) (N : Nat) (r : Int32) (f_self : Nat → Nat → Int32) (s_self : Nat → Nat → Int32) (v1 v2 : Int32) (h : f_Tt_isLess_0 N s_self v1 v2 = some (r, f_self)) : Gd p l e rm_Tt_isLess s m args below meth c 0 0 (MQ below (sq D classes (tyK K) (some (.int r)) [wd_Tt K a_self f_self] A) args s 0 0 A) D classes A 7 0 [wd_Tt K a_self s_self] [(0, .ref (a_self 0)), (1, .int v1), (2, .int v2)] [] := by
  unfold f_Tt_isLess_0 at h
  refine gd_aload_n X d_Tt_isLess_0 0 rfl ?_
  refine gd_get X (ci := 2) (C := R_Tt) (T := F_Tt) (N := 6) (v := .ref (a_self 1)) 0 0 rfl rfl rfl (in_Tt _) 0 (by decide) (List.mem_cons_of_mem _ fl_Tt_11) rfl rfl d_Tt_isLess_1 ?_
  refine gd_iload_n X d_Tt_isLess_4 1 rfl ?_
  obtain ⟨hi_1, h⟩ := ck_e h
  refine gd_iald X 0 1 0 rfl rfl rfl hi_1 d_Tt_isLess_5 ?_
  refine gd_aload_n X d_Tt_isLess_6 0 rfl ?_
  refine gd_get X (ci := 2) (C := R_Tt) (T := F_Tt) (N := 6) (v := .ref (a_self 1)) 0 0 rfl rfl rfl (in_Tt _) 0 (by decide) (List.mem_cons_of_mem _ fl_Tt_11) rfl rfl d_Tt_isLess_7 ?_
  refine gd_iload_n X d_Tt_isLess_10 2 rfl ?_
  obtain ⟨hi_2, h⟩ := ck_e h
  refine gd_iald X 0 1 0 rfl rfl rfl hi_2 d_Tt_isLess_11 ?_
  refine gd_icmp_eq X (tgt := 36) d_Tt_isLess_12 (by decide) (fun c_3 => ?_) (fun c_3 => ?_)
  · replace h := it_p c_3 h
    refine gd_iconst X (v := 1) d_Tt_isLess_36 (by decide) ?_
    refine gd_istore_n X (lv' := [(3, .int 1), (0, .ref (a_self 0)), (1, .int v1), (2, .int v2)]) d_Tt_isLess_37 rfl (by decide) rfl ?_
    refine gd_aload_n X d_Tt_isLess_38 1 rfl ?_
    refine gd_get X (ci := 2) (C := R_Tt) (T := F_Tt) (N := 6) (v := .ref (a_self 5)) 0 0 rfl rfl rfl (in_Tt _) 4 (by decide) (List.mem_cons_of_mem _ fl_Tt_24) rfl rfl d_Tt_isLess_39 ?_
    refine gd_iconst X (v := 0) d_Tt_isLess_42 (by decide) ?_
    refine gd_iload_n X d_Tt_isLess_43 2 rfl ?_
    obtain ⟨hi_4, h⟩ := ck_e h
    obtain ⟨s_self_5, es_self_5, h⟩ := nm_e' h
    refine gd_iast X (w' := [wd_Tt K a_self s_self_5]) 0 5 0 rfl rfl rfl hi_4 d_Tt_isLess_44 (by rw [es_self_5]; rfl) ?_
    refine gd_aload_n X d_Tt_isLess_45 1 rfl ?_
    refine gd_get X (ci := 2) (C := R_Tt) (T := F_Tt) (N := 6) (v := .ref (a_self 6)) 0 0 rfl rfl rfl (in_Tt _) 5 (by decide) (List.mem_cons_of_mem _ fl_Tt_27) rfl rfl d_Tt_isLess_46 ?_
    refine gd_iconst X (v := 0) d_Tt_isLess_49 (by decide) ?_
    refine gd_iload_n X d_Tt_isLess_50 3 rfl ?_
    obtain ⟨hi_6, h⟩ := ck_e h
    obtain ⟨s_self_7, es_self_7, h⟩ := nm_e' h
    refine gd_iast X (w' := [wd_Tt K a_self s_self_7]) 0 6 0 rfl rfl rfl hi_6 d_Tt_isLess_51 (by rw [es_self_7]; rfl) ?_
    refine gd_iconst X (v := 0) d_Tt_isLess_52 (by decide) ?_
    refine gd_istore X (lv' := [(4, .int 0), (3, .int 1), (0, .ref (a_self 0)), (1, .int v1), (2, .int v2)]) d_Tt_isLess_53 (by decide) rfl ?_
    refine gd_loc (lv' := [(0, .ref (a_self 0)), (3, .int 1), (4, .int 0)]) [2, 1, 0] rfl ?_
    exact tl_Tt_isLess_55 a_self X hr hlk N r f_self (fun s_self v5 v6 => f_Tt_isLess_103 N s_self v5 v6) (fun s_self v5 v6 h => t_Tt_isLess_103 a_self X hr hlk N r f_self s_self v5 v6 h) (fun s_self => f_Tt_isLess_163 N s_self) (fun s_self h => t_Tt_isLess_163 a_self X hr hlk N r f_self s_self h) N s_self_7 1 0 h
  · replace h := it_n c_3 h
    refine gd_aload_n X d_Tt_isLess_15 0 rfl ?_
    refine gd_get X (ci := 2) (C := R_Tt) (T := F_Tt) (N := 6) (v := .ref (a_self 1)) 0 0 rfl rfl rfl (in_Tt _) 0 (by decide) (List.mem_cons_of_mem _ fl_Tt_11) rfl rfl d_Tt_isLess_16 ?_
    refine gd_iload_n X d_Tt_isLess_19 1 rfl ?_
    obtain ⟨hi_8, h⟩ := ck_e h
    refine gd_iald X 0 1 0 rfl rfl rfl hi_8 d_Tt_isLess_20 ?_
    refine gd_aload_n X d_Tt_isLess_21 0 rfl ?_
    refine gd_get X (ci := 2) (C := R_Tt) (T := F_Tt) (N := 6) (v := .ref (a_self 1)) 0 0 rfl rfl rfl (in_Tt _) 0 (by decide) (List.mem_cons_of_mem _ fl_Tt_11) rfl rfl d_Tt_isLess_22 ?_
    refine gd_iload_n X d_Tt_isLess_25 2 rfl ?_
    obtain ⟨hi_9, h⟩ := ck_e h
    refine gd_iald X 0 1 0 rfl rfl rfl hi_9 d_Tt_isLess_26 ?_
    refine gd_icmp_ge X (tgt := 34) d_Tt_isLess_27 (by decide) (fun c_10 => ?_) (fun c_10 => ?_)
    · replace h := it_p c_10 h
      refine gd_iconst X (v := 0) d_Tt_isLess_34 (by decide) ?_
      cases h
      exact gd_zret X hr hlk (by decide) d_Tt_isLess_35
    · replace h := it_n c_10 h
      refine gd_iconst X (v := 1) d_Tt_isLess_30 (by decide) ?_
      refine gd_goto X (tgt := 35) d_Tt_isLess_31 (by decide) ?_
      cases h
      exact gd_zret X hr hlk (by decide) d_Tt_isLess_35
def m_Tt_isLess (N : Nat) (s_self : Nat → Nat → Int32) (v1 v2 : Int32) : Option ((Int32) × (Nat → Nat → Int32)) := f_Tt_isLess_0 N s_self v1 v2
set_option maxHeartbeats 4000000 in
set_option maxRecDepth 100000 in
theorem c_Tt_isLess (l : Launch) (D : va_G) (K : Nat → ClassId) (a_self : Nat → Nat) (N : Nat) (s_self : Nat → Nat → Int32) (v1 v2 : Int32) (r : Int32) (f_self : Nat → Nat → Int32) (h : m_Tt_isLess N s_self v1 v2 = some (r, f_self)) : SMet l y_Tt_isLess w_Tt_isLess rm_Tt_isLess D classes (tyK K) [.ref (a_self 0), .int v1, .int v2] (some (.int r)) [wd_Tt K a_self s_self] [wd_Tt K a_self f_self] := by
  refine sm_of R_Tt (by decide) rfl rfl (Nat.le_of_ble_eq_true rfl) ?_
  intro p e s m below meth c A X hr hlk
  refine gd_loc (lv' := [(0, .ref (a_self 0)), (1, .int v1), (2, .int v2)]) [0, 1, 2] rfl ?_
  exact t_Tt_isLess_0 a_self X hr hlk N r f_self s_self v1 v2 h
