abbrev b_Sy_isLessThan : ByteArray := prog_6_method_7_code
def y_Sy_isLessThan : MethodName := ⟨R_Sy, "isLessThan", "(LRuleTrees$Symbols;)Z"⟩
def w_Sy_isLessThan : List Cond := .code y_Sy_isLessThan b_Sy_isLessThan 3 (some .boolean) :: TB
theorem k_Sy_isLessThan : Cond.code y_Sy_isLessThan b_Sy_isLessThan 3 (some .boolean) ∈ TB := tb_of 712 (by decide +kernel) (by decide +kernel)
theorem d_Sy_isLessThan_0 : decode b_Sy_isLessThan 0 = .ok (.aload_n 0, 1) := by decide +kernel
theorem d_Sy_isLessThan_1 : decode b_Sy_isLessThan 1 = .ok (.getfield 21, 3) := by decide +kernel
theorem d_Sy_isLessThan_4 : decode b_Sy_isLessThan 4 = .ok (.aload_n 1, 1) := by decide +kernel
theorem d_Sy_isLessThan_5 : decode b_Sy_isLessThan 5 = .ok (.getfield 21, 3) := by decide +kernel
theorem d_Sy_isLessThan_8 : decode b_Sy_isLessThan 8 = .ok (.if_icmp .eq 20, 3) := by decide +kernel
theorem d_Sy_isLessThan_11 : decode b_Sy_isLessThan 11 = .ok (.aload_n 0, 1) := by decide +kernel
theorem d_Sy_isLessThan_12 : decode b_Sy_isLessThan 12 = .ok (.getfield 21, 3) := by decide +kernel
theorem d_Sy_isLessThan_15 : decode b_Sy_isLessThan 15 = .ok (.aload_n 1, 1) := by decide +kernel
theorem d_Sy_isLessThan_16 : decode b_Sy_isLessThan 16 = .ok (.getfield 21, 3) := by decide +kernel
theorem d_Sy_isLessThan_19 : decode b_Sy_isLessThan 19 = .ok (.if_icmp .ge 7, 3) := by decide +kernel
theorem d_Sy_isLessThan_22 : decode b_Sy_isLessThan 22 = .ok (.iconst 1, 1) := by decide +kernel
theorem d_Sy_isLessThan_23 : decode b_Sy_isLessThan 23 = .ok (.goto 4, 3) := by decide +kernel
theorem d_Sy_isLessThan_26 : decode b_Sy_isLessThan 26 = .ok (.iconst 0, 1) := by decide +kernel
theorem d_Sy_isLessThan_27 : decode b_Sy_isLessThan 27 = .ok (.ireturn, 1) := by decide +kernel
theorem d_Sy_isLessThan_28 : decode b_Sy_isLessThan 28 = .ok (.aload_n 0, 1) := by decide +kernel
theorem d_Sy_isLessThan_29 : decode b_Sy_isLessThan 29 = .ok (.aload_n 1, 1) := by decide +kernel
theorem d_Sy_isLessThan_30 : decode b_Sy_isLessThan 30 = .ok (.invokevirtual 33, 3) := by decide +kernel
theorem d_Sy_isLessThan_33 : decode b_Sy_isLessThan 33 = .ok (.istore_n 2, 1) := by decide +kernel
theorem d_Sy_isLessThan_34 : decode b_Sy_isLessThan 34 = .ok (.iload_n 2, 1) := by decide +kernel
theorem d_Sy_isLessThan_35 : decode b_Sy_isLessThan 35 = .ok (.aload_n 0, 1) := by decide +kernel
theorem d_Sy_isLessThan_36 : decode b_Sy_isLessThan 36 = .ok (.getfield 21, 3) := by decide +kernel
theorem d_Sy_isLessThan_39 : decode b_Sy_isLessThan 39 = .ok (.if_icmp .ge 20, 3) := by decide +kernel
theorem d_Sy_isLessThan_42 : decode b_Sy_isLessThan 42 = .ok (.aload_n 0, 1) := by decide +kernel
theorem d_Sy_isLessThan_43 : decode b_Sy_isLessThan 43 = .ok (.iload_n 2, 1) := by decide +kernel
theorem d_Sy_isLessThan_44 : decode b_Sy_isLessThan 44 = .ok (.invokevirtual 25, 3) := by decide +kernel
theorem d_Sy_isLessThan_47 : decode b_Sy_isLessThan 47 = .ok (.aload_n 1, 1) := by decide +kernel
theorem d_Sy_isLessThan_48 : decode b_Sy_isLessThan 48 = .ok (.iload_n 2, 1) := by decide +kernel
theorem d_Sy_isLessThan_49 : decode b_Sy_isLessThan 49 = .ok (.invokevirtual 25, 3) := by decide +kernel
theorem d_Sy_isLessThan_52 : decode b_Sy_isLessThan 52 = .ok (.if_icmp .ge 7, 3) := by decide +kernel
theorem d_Sy_isLessThan_55 : decode b_Sy_isLessThan 55 = .ok (.iconst 1, 1) := by decide +kernel
theorem d_Sy_isLessThan_56 : decode b_Sy_isLessThan 56 = .ok (.goto 4, 3) := by decide +kernel
theorem d_Sy_isLessThan_59 : decode b_Sy_isLessThan 59 = .ok (.iconst 0, 1) := by decide +kernel
theorem d_Sy_isLessThan_60 : decode b_Sy_isLessThan 60 = .ok (.ireturn, 1) := by decide +kernel
abbrev rm_Sy_isLessThan : Room := { frames := 2, cells := 0, slots := 0, locals := 44 }
def f_Sy_isLessThan_0 (N : Nat) (n_self : Nat) (n_p0 : Nat) (s_self s_p0 : Nat → Nat → Int32) : Option ((Int32)) :=
  if (s_self 0 1) = (s_p0 0 1) then
    bd1 (m_Sy_firstDifference N n_self n_p0 s_self s_p0) fun r_2 =>
    if (s_self 0 1) ≤ r_2 then
      some (0)
    else
      bd1 (m_Sy_at n_self s_self r_2) fun r_5 =>
      bd1 (m_Sy_at n_p0 s_p0 r_2) fun r_7 =>
      if r_7 ≤ r_5 then
        some (0)
      else
        some (1)
  else
    if (s_p0 0 1) ≤ (s_self 0 1) then
      some (0)
    else
      some (1)
set_option maxHeartbeats 4000000 in
set_option maxRecDepth 100000 in
theorem t_Sy_isLessThan_0 {p : Program} {l : Launch} {e : Env} {s : State} {m : MethodId} {args : Array Value} {below : List Frame} {meth : Method} {c : Code} {A : Nat → Prop} {D : va_G} {K : Nat → ClassId} (a_self a_p0 : Nat → Nat) (n_self : Nat) (n_p0 : Nat) (X : gx p s m args c b_Sy_isLessThan 3 R_Sy w_Sy_isLessThan D classes (tyK K) A) (hr : meth.sig.returnType = some .boolean) (hlk : meth.locks = false) (N : Nat) (r : Int32) (s_self s_p0 : Nat → Nat → Int32) (h : f_Sy_isLessThan_0 N n_self n_p0 s_self s_p0 = some r) : Gd p l e rm_Sy_isLessThan s m args below meth c 0 0 (MQ below (sq D classes (tyK K) (some (.int r)) [wd_Sy K a_self n_self s_self, wd_Sy K a_p0 n_p0 s_p0] A) args s 0 0 A) D classes A 3 0 [wd_Sy K a_self n_self s_self, wd_Sy K a_p0 n_p0 s_p0] [(0, .ref (a_self 0)), (1, .ref (a_p0 0))] [] := by
  unfold f_Sy_isLessThan_0 at h
  refine gd_aload_n X d_Sy_isLessThan_0 0 rfl ?_
  refine gd_get X (ci := 0) (C := R_Sy) (T := F_Sy) (N := 2) (v := .int (s_self 0 1)) 0 0 rfl rfl rfl (in_Sy _) 1 (by decide) (List.mem_cons_of_mem _ fl_Sy_21) rfl rfl d_Sy_isLessThan_1 ?_
  refine gd_aload_n X d_Sy_isLessThan_4 1 rfl ?_
  refine gd_get X (ci := 0) (C := R_Sy) (T := F_Sy) (N := 2) (v := .int (s_p0 0 1)) 1 0 rfl rfl rfl (in_Sy _) 1 (by decide) (List.mem_cons_of_mem _ fl_Sy_21) rfl rfl d_Sy_isLessThan_5 ?_
  refine gd_icmp_eq X (tgt := 28) d_Sy_isLessThan_8 (by decide) (fun c_1 => ?_) (fun c_1 => ?_)
  · replace h := it_p c_1 h
    refine gd_aload_n X d_Sy_isLessThan_28 0 rfl ?_
    refine gd_aload_n X d_Sy_isLessThan_29 1 rfl ?_
    obtain ⟨r_2, hc_3, h⟩ := bd1_e h
    refine gd_fI X (gd_V X (As := [.ref (a_p0 0)]) (rest := []) (c_Sy_firstDifference l D K a_self a_p0 n_self n_p0 N s_self s_p0 r_2 hc_3) 1 (gi_V ml_Sy_33 u_Sy_firstDifference) rfl ⟨rfl, rfl⟩ (by decide +kernel) ⟨by decide, by decide⟩ (ci := 0) rfl rfl rfl rfl rfl rfl (Nat.le_of_ble_eq_true rfl) ⟨Nat.zero_le _, Nat.zero_le _⟩ d_Sy_isLessThan_30) ?_
    refine gd_istore_n X (lv' := [(2, .int r_2), (0, .ref (a_self 0)), (1, .ref (a_p0 0))]) d_Sy_isLessThan_33 rfl (by decide) rfl ?_
    refine gd_iload_n X d_Sy_isLessThan_34 0 rfl ?_
    refine gd_aload_n X d_Sy_isLessThan_35 1 rfl ?_
    refine gd_get X (ci := 0) (C := R_Sy) (T := F_Sy) (N := 2) (v := .int (s_self 0 1)) 0 0 rfl rfl rfl (in_Sy _) 1 (by decide) (List.mem_cons_of_mem _ fl_Sy_21) rfl rfl d_Sy_isLessThan_36 ?_
    refine gd_icmp_ge X (tgt := 59) d_Sy_isLessThan_39 (by decide) (fun c_4 => ?_) (fun c_4 => ?_)
    · replace h := it_p c_4 h
      refine gd_iconst X (v := 0) d_Sy_isLessThan_59 (by decide) ?_
      cases h
      exact gd_zret X hr hlk (by decide) d_Sy_isLessThan_60
    · replace h := it_n c_4 h
      refine gd_aload_n X d_Sy_isLessThan_42 1 rfl ?_
      refine gd_iload_n X d_Sy_isLessThan_43 0 rfl ?_
      obtain ⟨r_5, hc_6, h⟩ := bd1_e h
      refine gd_pI X (gd_V X (As := [.int r_2]) (rest := []) (c_Sy_at l D K a_self n_self s_self r_2 r_5 hc_6) 1 (gi_V ml_Sy_25 u_Sy_at) rfl ⟨rfl, rfl⟩ (by decide +kernel) ⟨by decide, by decide⟩ (ci := 0) rfl rfl rfl rfl rfl rfl (Nat.le_of_ble_eq_true rfl) ⟨Nat.zero_le _, Nat.zero_le _⟩ d_Sy_isLessThan_44) [0] rfl rfl ?_
      refine gd_aload_n X d_Sy_isLessThan_47 2 rfl ?_
      refine gd_iload_n X d_Sy_isLessThan_48 0 rfl ?_
      obtain ⟨r_7, hc_8, h⟩ := bd1_e h
      refine gd_pI X (gd_V X (As := [.int r_2]) (rest := [.int r_5]) (c_Sy_at l D K a_p0 n_p0 s_p0 r_2 r_7 hc_8) 1 (gi_V ml_Sy_25 u_Sy_at) rfl ⟨rfl, rfl⟩ (by decide +kernel) ⟨by decide, by decide⟩ (ci := 0) rfl rfl rfl rfl rfl rfl (Nat.le_of_ble_eq_true rfl) ⟨Nat.zero_le _, Nat.zero_le _⟩ d_Sy_isLessThan_49) [1] rfl rfl ?_
      refine gd_icmp_ge X (tgt := 59) d_Sy_isLessThan_52 (by decide) (fun c_9 => ?_) (fun c_9 => ?_)
      · replace h := it_p c_9 h
        refine gd_iconst X (v := 0) d_Sy_isLessThan_59 (by decide) ?_
        cases h
        exact gd_zret X hr hlk (by decide) d_Sy_isLessThan_60
      · replace h := it_n c_9 h
        refine gd_iconst X (v := 1) d_Sy_isLessThan_55 (by decide) ?_
        refine gd_goto X (tgt := 60) d_Sy_isLessThan_56 (by decide) ?_
        cases h
        exact gd_zret X hr hlk (by decide) d_Sy_isLessThan_60
  · replace h := it_n c_1 h
    refine gd_aload_n X d_Sy_isLessThan_11 0 rfl ?_
    refine gd_get X (ci := 0) (C := R_Sy) (T := F_Sy) (N := 2) (v := .int (s_self 0 1)) 0 0 rfl rfl rfl (in_Sy _) 1 (by decide) (List.mem_cons_of_mem _ fl_Sy_21) rfl rfl d_Sy_isLessThan_12 ?_
    refine gd_aload_n X d_Sy_isLessThan_15 1 rfl ?_
    refine gd_get X (ci := 0) (C := R_Sy) (T := F_Sy) (N := 2) (v := .int (s_p0 0 1)) 1 0 rfl rfl rfl (in_Sy _) 1 (by decide) (List.mem_cons_of_mem _ fl_Sy_21) rfl rfl d_Sy_isLessThan_16 ?_
    refine gd_icmp_ge X (tgt := 26) d_Sy_isLessThan_19 (by decide) (fun c_10 => ?_) (fun c_10 => ?_)
    · replace h := it_p c_10 h
      refine gd_iconst X (v := 0) d_Sy_isLessThan_26 (by decide) ?_
      cases h
      exact gd_zret X hr hlk (by decide) d_Sy_isLessThan_27
    · replace h := it_n c_10 h
      refine gd_iconst X (v := 1) d_Sy_isLessThan_22 (by decide) ?_
      refine gd_goto X (tgt := 27) d_Sy_isLessThan_23 (by decide) ?_
      cases h
      exact gd_zret X hr hlk (by decide) d_Sy_isLessThan_27
def m_Sy_isLessThan (N : Nat) (n_self : Nat) (n_p0 : Nat) (s_self s_p0 : Nat → Nat → Int32) : Option ((Int32)) := f_Sy_isLessThan_0 N n_self n_p0 s_self s_p0
set_option maxHeartbeats 4000000 in
set_option maxRecDepth 100000 in
theorem c_Sy_isLessThan (l : Launch) (D : va_G) (K : Nat → ClassId) (a_self a_p0 : Nat → Nat) (n_self : Nat) (n_p0 : Nat) (N : Nat) (s_self s_p0 : Nat → Nat → Int32) (r : Int32) (h : m_Sy_isLessThan N n_self n_p0 s_self s_p0 = some r) : SMet l y_Sy_isLessThan w_Sy_isLessThan rm_Sy_isLessThan D classes (tyK K) [.ref (a_self 0), .ref (a_p0 0)] (some (.int r)) [wd_Sy K a_self n_self s_self, wd_Sy K a_p0 n_p0 s_p0] [wd_Sy K a_self n_self s_self, wd_Sy K a_p0 n_p0 s_p0] := by
  refine sm_of R_Sy (by decide) rfl rfl (Nat.le_of_ble_eq_true rfl) ?_
  intro p e s m below meth c A X hr hlk
  refine gd_loc (lv' := [(0, .ref (a_self 0)), (1, .ref (a_p0 0))]) [0, 1] rfl ?_
  exact t_Sy_isLessThan_0 a_self a_p0 n_self n_p0 X hr hlk N r s_self s_p0 h
abbrev b_Gr_hasSort : ByteArray := prog_3_method_2_code
def y_Gr_hasSort : MethodName := ⟨R_Gr, "hasSort", "(I)Z"⟩
def w_Gr_hasSort : List Cond := .code y_Gr_hasSort b_Gr_hasSort 2 (some .boolean) :: TB
theorem k_Gr_hasSort : Cond.code y_Gr_hasSort b_Gr_hasSort 2 (some .boolean) ∈ TB := tb_of 308 (by decide +kernel) (by decide +kernel)
theorem d_Gr_hasSort_0 : decode b_Gr_hasSort 0 = .ok (.iload_n 1, 1) := by decide +kernel
theorem d_Gr_hasSort_1 : decode b_Gr_hasSort 1 = .ok (.ifCond .lt 15, 3) := by decide +kernel
theorem d_Gr_hasSort_4 : decode b_Gr_hasSort 4 = .ok (.iload_n 1, 1) := by decide +kernel
theorem d_Gr_hasSort_5 : decode b_Gr_hasSort 5 = .ok (.aload_n 0, 1) := by decide +kernel
theorem d_Gr_hasSort_6 : decode b_Gr_hasSort 6 = .ok (.getfield 33, 3) := by decide +kernel
theorem d_Gr_hasSort_9 : decode b_Gr_hasSort 9 = .ok (.if_icmp .ge 7, 3) := by decide +kernel
theorem d_Gr_hasSort_12 : decode b_Gr_hasSort 12 = .ok (.iconst 1, 1) := by decide +kernel
theorem d_Gr_hasSort_13 : decode b_Gr_hasSort 13 = .ok (.goto 4, 3) := by decide +kernel
theorem d_Gr_hasSort_16 : decode b_Gr_hasSort 16 = .ok (.iconst 0, 1) := by decide +kernel
theorem d_Gr_hasSort_17 : decode b_Gr_hasSort 17 = .ok (.ireturn, 1) := by decide +kernel
theorem fl_Gr_33 : Cond.fieldLink R_Gr 33 "RuleTrees$Grammar" "sorts" "I" ∈ TB := tb_of 86 (by decide +kernel) (by decide +kernel)
abbrev rm_Gr_hasSort : Room := { frames := 0, cells := 0, slots := 0, locals := 0 }
def f_Gr_hasSort_0 (s_self : Nat → Nat → Int32) (v1 : Int32) : Option ((Int32)) :=
  if v1 < 0 then
    some (0)
  else
    if (s_self 0 0) ≤ v1 then
      some (0)
    else
      some (1)
set_option maxHeartbeats 4000000 in
set_option maxRecDepth 100000 in
theorem t_Gr_hasSort_0 {p : Program} {l : Launch} {e : Env} {s : State} {m : MethodId} {args : Array Value} {below : List Frame} {meth : Method} {c : Code} {A : Nat → Prop} {D : va_G} {K : Nat → ClassId} (a_self : Nat → Nat) (X : gx p s m args c b_Gr_hasSort 2 R_Gr w_Gr_hasSort D classes (tyK K) A) (hr : meth.sig.returnType = some .boolean) (hlk : meth.locks = false) (r : Int32) (s_self : Nat → Nat → Int32) (v1 : Int32) (h : f_Gr_hasSort_0 s_self v1 = some r) : Gd p l e rm_Gr_hasSort s m args below meth c 0 0 (MQ below (sq D classes (tyK K) (some (.int r)) [wd_Gr K a_self s_self] A) args s 0 0 A) D classes A 2 0 [wd_Gr K a_self s_self] [(0, .ref (a_self 0)), (1, .int v1)] [] := by
  unfold f_Gr_hasSort_0 at h
  refine gd_iload_n X d_Gr_hasSort_0 1 rfl ?_
  refine gd_if_lt X (tgt := 16) d_Gr_hasSort_1 (by decide) (fun c_1 => ?_) (fun c_1 => ?_)
  · replace h := it_p c_1 h
    refine gd_iconst X (v := 0) d_Gr_hasSort_16 (by decide) ?_
    cases h
    exact gd_zret X hr hlk (by decide) d_Gr_hasSort_17
  · replace h := it_n c_1 h
    refine gd_iload_n X d_Gr_hasSort_4 1 rfl ?_
    refine gd_aload_n X d_Gr_hasSort_5 0 rfl ?_
    refine gd_get X (ci := 1) (C := R_Gr) (T := F_Gr) (N := 12) (v := .int (s_self 0 0)) 0 0 rfl rfl rfl (in_Gr _) 0 (by decide) (List.mem_cons_of_mem _ fl_Gr_33) rfl rfl d_Gr_hasSort_6 ?_
    refine gd_icmp_ge X (tgt := 16) d_Gr_hasSort_9 (by decide) (fun c_2 => ?_) (fun c_2 => ?_)
    · replace h := it_p c_2 h
      refine gd_iconst X (v := 0) d_Gr_hasSort_16 (by decide) ?_
      cases h
      exact gd_zret X hr hlk (by decide) d_Gr_hasSort_17
    · replace h := it_n c_2 h
      refine gd_iconst X (v := 1) d_Gr_hasSort_12 (by decide) ?_
      refine gd_goto X (tgt := 17) d_Gr_hasSort_13 (by decide) ?_
      cases h
      exact gd_zret X hr hlk (by decide) d_Gr_hasSort_17
def m_Gr_hasSort (s_self : Nat → Nat → Int32) (v1 : Int32) : Option ((Int32)) := f_Gr_hasSort_0 s_self v1
set_option maxHeartbeats 4000000 in
set_option maxRecDepth 100000 in
theorem c_Gr_hasSort (l : Launch) (D : va_G) (K : Nat → ClassId) (a_self : Nat → Nat) (s_self : Nat → Nat → Int32) (v1 : Int32) (r : Int32) (h : m_Gr_hasSort s_self v1 = some r) : SMet l y_Gr_hasSort w_Gr_hasSort rm_Gr_hasSort D classes (tyK K) [.ref (a_self 0), .int v1] (some (.int r)) [wd_Gr K a_self s_self] [wd_Gr K a_self s_self] := by
  refine sm_of R_Gr (by decide) rfl rfl (Nat.le_of_ble_eq_true rfl) ?_
  intro p e s m below meth c A X hr hlk
  refine gd_loc (lv' := [(0, .ref (a_self 0)), (1, .int v1)]) [0, 1] rfl ?_
  exact t_Gr_hasSort_0 a_self X hr hlk r s_self v1 h
abbrev b_Gr_hasRule : ByteArray := prog_3_method_3_code
def y_Gr_hasRule : MethodName := ⟨R_Gr, "hasRule", "(I)Z"⟩
def w_Gr_hasRule : List Cond := .code y_Gr_hasRule b_Gr_hasRule 2 (some .boolean) :: TB
theorem k_Gr_hasRule : Cond.code y_Gr_hasRule b_Gr_hasRule 2 (some .boolean) ∈ TB := tb_of 386 (by decide +kernel) (by decide +kernel)
theorem d_Gr_hasRule_0 : decode b_Gr_hasRule 0 = .ok (.iload_n 1, 1) := by decide +kernel
theorem d_Gr_hasRule_1 : decode b_Gr_hasRule 1 = .ok (.ifCond .lt 15, 3) := by decide +kernel
theorem d_Gr_hasRule_4 : decode b_Gr_hasRule 4 = .ok (.iload_n 1, 1) := by decide +kernel
theorem d_Gr_hasRule_5 : decode b_Gr_hasRule 5 = .ok (.aload_n 0, 1) := by decide +kernel
theorem d_Gr_hasRule_6 : decode b_Gr_hasRule 6 = .ok (.getfield 37, 3) := by decide +kernel
theorem d_Gr_hasRule_9 : decode b_Gr_hasRule 9 = .ok (.if_icmp .ge 7, 3) := by decide +kernel
theorem d_Gr_hasRule_12 : decode b_Gr_hasRule 12 = .ok (.iconst 1, 1) := by decide +kernel
theorem d_Gr_hasRule_13 : decode b_Gr_hasRule 13 = .ok (.goto 4, 3) := by decide +kernel
theorem d_Gr_hasRule_16 : decode b_Gr_hasRule 16 = .ok (.iconst 0, 1) := by decide +kernel
theorem d_Gr_hasRule_17 : decode b_Gr_hasRule 17 = .ok (.ireturn, 1) := by decide +kernel
theorem fl_Gr_37 : Cond.fieldLink R_Gr 37 "RuleTrees$Grammar" "rules" "I" ∈ TB := tb_of 91 (by decide +kernel) (by decide +kernel)
abbrev rm_Gr_hasRule : Room := { frames := 0, cells := 0, slots := 0, locals := 0 }
def f_Gr_hasRule_0 (s_self : Nat → Nat → Int32) (v1 : Int32) : Option ((Int32)) :=
  if v1 < 0 then
    some (0)
  else
    if (s_self 0 2) ≤ v1 then
      some (0)
    else
      some (1)
set_option maxHeartbeats 4000000 in
set_option maxRecDepth 100000 in
theorem t_Gr_hasRule_0 {p : Program} {l : Launch} {e : Env} {s : State} {m : MethodId} {args : Array Value} {below : List Frame} {meth : Method} {c : Code} {A : Nat → Prop} {D : va_G} {K : Nat → ClassId} (a_self : Nat → Nat) (X : gx p s m args c b_Gr_hasRule 2 R_Gr w_Gr_hasRule D classes (tyK K) A) (hr : meth.sig.returnType = some .boolean) (hlk : meth.locks = false) (r : Int32) (s_self : Nat → Nat → Int32) (v1 : Int32) (h : f_Gr_hasRule_0 s_self v1 = some r) : Gd p l e rm_Gr_hasRule s m args below meth c 0 0 (MQ below (sq D classes (tyK K) (some (.int r)) [wd_Gr K a_self s_self] A) args s 0 0 A) D classes A 2 0 [wd_Gr K a_self s_self] [(0, .ref (a_self 0)), (1, .int v1)] [] := by
  unfold f_Gr_hasRule_0 at h
  refine gd_iload_n X d_Gr_hasRule_0 1 rfl ?_
  refine gd_if_lt X (tgt := 16) d_Gr_hasRule_1 (by decide) (fun c_1 => ?_) (fun c_1 => ?_)
  · replace h := it_p c_1 h
    refine gd_iconst X (v := 0) d_Gr_hasRule_16 (by decide) ?_
    cases h
    exact gd_zret X hr hlk (by decide) d_Gr_hasRule_17
  · replace h := it_n c_1 h
    refine gd_iload_n X d_Gr_hasRule_4 1 rfl ?_
    refine gd_aload_n X d_Gr_hasRule_5 0 rfl ?_
    refine gd_get X (ci := 1) (C := R_Gr) (T := F_Gr) (N := 12) (v := .int (s_self 0 2)) 0 0 rfl rfl rfl (in_Gr _) 2 (by decide) (List.mem_cons_of_mem _ fl_Gr_37) rfl rfl d_Gr_hasRule_6 ?_
    refine gd_icmp_ge X (tgt := 16) d_Gr_hasRule_9 (by decide) (fun c_2 => ?_) (fun c_2 => ?_)
    · replace h := it_p c_2 h
      refine gd_iconst X (v := 0) d_Gr_hasRule_16 (by decide) ?_
      cases h
      exact gd_zret X hr hlk (by decide) d_Gr_hasRule_17
    · replace h := it_n c_2 h
      refine gd_iconst X (v := 1) d_Gr_hasRule_12 (by decide) ?_
      refine gd_goto X (tgt := 17) d_Gr_hasRule_13 (by decide) ?_
      cases h
      exact gd_zret X hr hlk (by decide) d_Gr_hasRule_17
def m_Gr_hasRule (s_self : Nat → Nat → Int32) (v1 : Int32) : Option ((Int32)) := f_Gr_hasRule_0 s_self v1
set_option maxHeartbeats 4000000 in
set_option maxRecDepth 100000 in
theorem c_Gr_hasRule (l : Launch) (D : va_G) (K : Nat → ClassId) (a_self : Nat → Nat) (s_self : Nat → Nat → Int32) (v1 : Int32) (r : Int32) (h : m_Gr_hasRule s_self v1 = some r) : SMet l y_Gr_hasRule w_Gr_hasRule rm_Gr_hasRule D classes (tyK K) [.ref (a_self 0), .int v1] (some (.int r)) [wd_Gr K a_self s_self] [wd_Gr K a_self s_self] := by
  refine sm_of R_Gr (by decide) rfl rfl (Nat.le_of_ble_eq_true rfl) ?_
  intro p e s m below meth c A X hr hlk
  refine gd_loc (lv' := [(0, .ref (a_self 0)), (1, .int v1)]) [0, 1] rfl ?_
  exact t_Gr_hasRule_0 a_self X hr hlk r s_self v1 h
abbrev b_Gr_hasSymbol : ByteArray := prog_3_method_4_code
def y_Gr_hasSymbol : MethodName := ⟨R_Gr, "hasSymbol", "(I)Z"⟩
def w_Gr_hasSymbol : List Cond := .code y_Gr_hasSymbol b_Gr_hasSymbol 2 (some .boolean) :: TB
theorem k_Gr_hasSymbol : Cond.code y_Gr_hasSymbol b_Gr_hasSymbol 2 (some .boolean) ∈ TB := tb_of 328 (by decide +kernel) (by decide +kernel)
theorem d_Gr_hasSymbol_0 : decode b_Gr_hasSymbol 0 = .ok (.iload_n 1, 1) := by decide +kernel
theorem d_Gr_hasSymbol_1 : decode b_Gr_hasSymbol 1 = .ok (.aload_n 0, 1) := by decide +kernel
theorem d_Gr_hasSymbol_2 : decode b_Gr_hasSymbol 2 = .ok (.getfield 40, 3) := by decide +kernel
theorem d_Gr_hasSymbol_5 : decode b_Gr_hasSymbol 5 = .ok (.ineg, 1) := by decide +kernel
theorem d_Gr_hasSymbol_6 : decode b_Gr_hasSymbol 6 = .ok (.if_icmp .lt 13, 3) := by decide +kernel
theorem d_Gr_hasSymbol_9 : decode b_Gr_hasSymbol 9 = .ok (.iload_n 1, 1) := by decide +kernel
theorem d_Gr_hasSymbol_10 : decode b_Gr_hasSymbol 10 = .ok (.bipush 30, 2) := by decide +kernel
theorem d_Gr_hasSymbol_12 : decode b_Gr_hasSymbol 12 = .ok (.if_icmp .ge 7, 3) := by decide +kernel
theorem d_Gr_hasSymbol_15 : decode b_Gr_hasSymbol 15 = .ok (.iconst 1, 1) := by decide +kernel
theorem d_Gr_hasSymbol_16 : decode b_Gr_hasSymbol 16 = .ok (.goto 4, 3) := by decide +kernel
theorem d_Gr_hasSymbol_19 : decode b_Gr_hasSymbol 19 = .ok (.iconst 0, 1) := by decide +kernel
theorem d_Gr_hasSymbol_20 : decode b_Gr_hasSymbol 20 = .ok (.ireturn, 1) := by decide +kernel
theorem fl_Gr_40 : Cond.fieldLink R_Gr 40 "RuleTrees$Grammar" "variables" "I" ∈ TB := tb_of 88 (by decide +kernel) (by decide +kernel)
abbrev rm_Gr_hasSymbol : Room := { frames := 0, cells := 0, slots := 0, locals := 0 }
def f_Gr_hasSymbol_0 (s_self : Nat → Nat → Int32) (v1 : Int32) : Option ((Int32)) :=
  if v1 < (-(s_self 0 1)) then
    some (0)
  else
    if 30 ≤ v1 then
      some (0)
    else
      some (1)
set_option maxHeartbeats 4000000 in
set_option maxRecDepth 100000 in
theorem t_Gr_hasSymbol_0 {p : Program} {l : Launch} {e : Env} {s : State} {m : MethodId} {args : Array Value} {below : List Frame} {meth : Method} {c : Code} {A : Nat → Prop} {D : va_G} {K : Nat → ClassId} (a_self : Nat → Nat) (X : gx p s m args c b_Gr_hasSymbol 2 R_Gr w_Gr_hasSymbol D classes (tyK K) A) (hr : meth.sig.returnType = some .boolean) (hlk : meth.locks = false) (r : Int32) (s_self : Nat → Nat → Int32) (v1 : Int32) (h : f_Gr_hasSymbol_0 s_self v1 = some r) : Gd p l e rm_Gr_hasSymbol s m args below meth c 0 0 (MQ below (sq D classes (tyK K) (some (.int r)) [wd_Gr K a_self s_self] A) args s 0 0 A) D classes A 2 0 [wd_Gr K a_self s_self] [(0, .ref (a_self 0)), (1, .int v1)] [] := by
  unfold f_Gr_hasSymbol_0 at h
  refine gd_iload_n X d_Gr_hasSymbol_0 1 rfl ?_
  refine gd_aload_n X d_Gr_hasSymbol_1 0 rfl ?_
  refine gd_get X (ci := 1) (C := R_Gr) (T := F_Gr) (N := 12) (v := .int (s_self 0 1)) 0 0 rfl rfl rfl (in_Gr _) 1 (by decide) (List.mem_cons_of_mem _ fl_Gr_40) rfl rfl d_Gr_hasSymbol_2 ?_
  refine gd_ineg X d_Gr_hasSymbol_5 ?_
  refine gd_icmp_lt X (tgt := 19) d_Gr_hasSymbol_6 (by decide) (fun c_1 => ?_) (fun c_1 => ?_)
  · replace h := it_p c_1 h
    refine gd_iconst X (v := 0) d_Gr_hasSymbol_19 (by decide) ?_
    cases h
    exact gd_zret X hr hlk (by decide) d_Gr_hasSymbol_20
  · replace h := it_n c_1 h
    refine gd_iload_n X d_Gr_hasSymbol_9 1 rfl ?_
    refine gd_bipush X (v := 30) d_Gr_hasSymbol_10 (by decide) ?_
    refine gd_icmp_ge X (tgt := 19) d_Gr_hasSymbol_12 (by decide) (fun c_2 => ?_) (fun c_2 => ?_)
    · replace h := it_p c_2 h
      refine gd_iconst X (v := 0) d_Gr_hasSymbol_19 (by decide) ?_
      cases h
      exact gd_zret X hr hlk (by decide) d_Gr_hasSymbol_20
    · replace h := it_n c_2 h
      refine gd_iconst X (v := 1) d_Gr_hasSymbol_15 (by decide) ?_
      refine gd_goto X (tgt := 20) d_Gr_hasSymbol_16 (by decide) ?_
      cases h
      exact gd_zret X hr hlk (by decide) d_Gr_hasSymbol_20
def m_Gr_hasSymbol (s_self : Nat → Nat → Int32) (v1 : Int32) : Option ((Int32)) := f_Gr_hasSymbol_0 s_self v1
set_option maxHeartbeats 4000000 in
set_option maxRecDepth 100000 in
theorem c_Gr_hasSymbol (l : Launch) (D : va_G) (K : Nat → ClassId) (a_self : Nat → Nat) (s_self : Nat → Nat → Int32) (v1 : Int32) (r : Int32) (h : m_Gr_hasSymbol s_self v1 = some r) : SMet l y_Gr_hasSymbol w_Gr_hasSymbol rm_Gr_hasSymbol D classes (tyK K) [.ref (a_self 0), .int v1] (some (.int r)) [wd_Gr K a_self s_self] [wd_Gr K a_self s_self] := by
  refine sm_of R_Gr (by decide) rfl rfl (Nat.le_of_ble_eq_true rfl) ?_
  intro p e s m below meth c A X hr hlk
  refine gd_loc (lv' := [(0, .ref (a_self 0)), (1, .int v1)]) [0, 1] rfl ?_
  exact t_Gr_hasSymbol_0 a_self X hr hlk r s_self v1 h
abbrev b_Gr_hasCode : ByteArray := prog_3_method_5_code
def y_Gr_hasCode : MethodName := ⟨R_Gr, "hasCode", "(I)Z"⟩
def w_Gr_hasCode : List Cond := .code y_Gr_hasCode b_Gr_hasCode 2 (some .boolean) :: TB
theorem k_Gr_hasCode : Cond.code y_Gr_hasCode b_Gr_hasCode 2 (some .boolean) ∈ TB := tb_of 398 (by decide +kernel) (by decide +kernel)
theorem d_Gr_hasCode_0 : decode b_Gr_hasCode 0 = .ok (.iload_n 1, 1) := by decide +kernel
theorem d_Gr_hasCode_1 : decode b_Gr_hasCode 1 = .ok (.aload_n 0, 1) := by decide +kernel
theorem d_Gr_hasCode_2 : decode b_Gr_hasCode 2 = .ok (.getfield 40, 3) := by decide +kernel
theorem d_Gr_hasCode_5 : decode b_Gr_hasCode 5 = .ok (.ineg, 1) := by decide +kernel
theorem d_Gr_hasCode_6 : decode b_Gr_hasCode 6 = .ok (.if_icmp .lt 15, 3) := by decide +kernel
theorem d_Gr_hasCode_9 : decode b_Gr_hasCode 9 = .ok (.iload_n 1, 1) := by decide +kernel
theorem d_Gr_hasCode_10 : decode b_Gr_hasCode 10 = .ok (.aload_n 0, 1) := by decide +kernel
theorem d_Gr_hasCode_11 : decode b_Gr_hasCode 11 = .ok (.getfield 37, 3) := by decide +kernel
theorem d_Gr_hasCode_14 : decode b_Gr_hasCode 14 = .ok (.if_icmp .ge 7, 3) := by decide +kernel
theorem d_Gr_hasCode_17 : decode b_Gr_hasCode 17 = .ok (.iconst 1, 1) := by decide +kernel
theorem d_Gr_hasCode_18 : decode b_Gr_hasCode 18 = .ok (.goto 4, 3) := by decide +kernel
theorem d_Gr_hasCode_21 : decode b_Gr_hasCode 21 = .ok (.iconst 0, 1) := by decide +kernel
theorem d_Gr_hasCode_22 : decode b_Gr_hasCode 22 = .ok (.ireturn, 1) := by decide +kernel
abbrev rm_Gr_hasCode : Room := { frames := 0, cells := 0, slots := 0, locals := 0 }
def f_Gr_hasCode_0 (s_self : Nat → Nat → Int32) (v1 : Int32) : Option ((Int32)) :=
  if v1 < (-(s_self 0 1)) then
    some (0)
  else
    if (s_self 0 2) ≤ v1 then
      some (0)
    else
      some (1)
set_option maxHeartbeats 4000000 in
set_option maxRecDepth 100000 in
theorem t_Gr_hasCode_0 {p : Program} {l : Launch} {e : Env} {s : State} {m : MethodId} {args : Array Value} {below : List Frame} {meth : Method} {c : Code} {A : Nat → Prop} {D : va_G} {K : Nat → ClassId} (a_self : Nat → Nat) (X : gx p s m args c b_Gr_hasCode 2 R_Gr w_Gr_hasCode D classes (tyK K) A) (hr : meth.sig.returnType = some .boolean) (hlk : meth.locks = false) (r : Int32) (s_self : Nat → Nat → Int32) (v1 : Int32) (h : f_Gr_hasCode_0 s_self v1 = some r) : Gd p l e rm_Gr_hasCode s m args below meth c 0 0 (MQ below (sq D classes (tyK K) (some (.int r)) [wd_Gr K a_self s_self] A) args s 0 0 A) D classes A 2 0 [wd_Gr K a_self s_self] [(0, .ref (a_self 0)), (1, .int v1)] [] := by
  unfold f_Gr_hasCode_0 at h
  refine gd_iload_n X d_Gr_hasCode_0 1 rfl ?_
  refine gd_aload_n X d_Gr_hasCode_1 0 rfl ?_
  refine gd_get X (ci := 1) (C := R_Gr) (T := F_Gr) (N := 12) (v := .int (s_self 0 1)) 0 0 rfl rfl rfl (in_Gr _) 1 (by decide) (List.mem_cons_of_mem _ fl_Gr_40) rfl rfl d_Gr_hasCode_2 ?_
  refine gd_ineg X d_Gr_hasCode_5 ?_
  refine gd_icmp_lt X (tgt := 21) d_Gr_hasCode_6 (by decide) (fun c_1 => ?_) (fun c_1 => ?_)
  · replace h := it_p c_1 h
    refine gd_iconst X (v := 0) d_Gr_hasCode_21 (by decide) ?_
    cases h
    exact gd_zret X hr hlk (by decide) d_Gr_hasCode_22
  · replace h := it_n c_1 h
    refine gd_iload_n X d_Gr_hasCode_9 1 rfl ?_
    refine gd_aload_n X d_Gr_hasCode_10 0 rfl ?_
    refine gd_get X (ci := 1) (C := R_Gr) (T := F_Gr) (N := 12) (v := .int (s_self 0 2)) 0 0 rfl rfl rfl (in_Gr _) 2 (by decide) (List.mem_cons_of_mem _ fl_Gr_37) rfl rfl d_Gr_hasCode_11 ?_
    refine gd_icmp_ge X (tgt := 21) d_Gr_hasCode_14 (by decide) (fun c_2 => ?_) (fun c_2 => ?_)
    · replace h := it_p c_2 h
      refine gd_iconst X (v := 0) d_Gr_hasCode_21 (by decide) ?_
      cases h
      exact gd_zret X hr hlk (by decide) d_Gr_hasCode_22
    · replace h := it_n c_2 h
      refine gd_iconst X (v := 1) d_Gr_hasCode_17 (by decide) ?_
      refine gd_goto X (tgt := 22) d_Gr_hasCode_18 (by decide) ?_
      cases h
      exact gd_zret X hr hlk (by decide) d_Gr_hasCode_22
def m_Gr_hasCode (s_self : Nat → Nat → Int32) (v1 : Int32) : Option ((Int32)) := f_Gr_hasCode_0 s_self v1
set_option maxHeartbeats 4000000 in
set_option maxRecDepth 100000 in
theorem c_Gr_hasCode (l : Launch) (D : va_G) (K : Nat → ClassId) (a_self : Nat → Nat) (s_self : Nat → Nat → Int32) (v1 : Int32) (r : Int32) (h : m_Gr_hasCode s_self v1 = some r) : SMet l y_Gr_hasCode w_Gr_hasCode rm_Gr_hasCode D classes (tyK K) [.ref (a_self 0), .int v1] (some (.int r)) [wd_Gr K a_self s_self] [wd_Gr K a_self s_self] := by
  refine sm_of R_Gr (by decide) rfl rfl (Nat.le_of_ble_eq_true rfl) ?_
  intro p e s m below meth c A X hr hlk
  refine gd_loc (lv' := [(0, .ref (a_self 0)), (1, .int v1)]) [0, 1] rfl ?_
  exact t_Gr_hasCode_0 a_self X hr hlk r s_self v1 h
abbrev b_Gr_sortOfCode : ByteArray := prog_3_method_6_code
def y_Gr_sortOfCode : MethodName := ⟨R_Gr, "sortOfCode", "(I)I"⟩
def w_Gr_sortOfCode : List Cond := .code y_Gr_sortOfCode b_Gr_sortOfCode 2 (some .int) :: TB
theorem k_Gr_sortOfCode : Cond.code y_Gr_sortOfCode b_Gr_sortOfCode 2 (some .int) ∈ TB := tb_of 394 (by decide +kernel) (by decide +kernel)
theorem d_Gr_sortOfCode_0 : decode b_Gr_sortOfCode 0 = .ok (.aload_n 0, 1) := by decide +kernel
theorem d_Gr_sortOfCode_1 : decode b_Gr_sortOfCode 1 = .ok (.iload_n 1, 1) := by decide +kernel
theorem d_Gr_sortOfCode_2 : decode b_Gr_sortOfCode 2 = .ok (.invokevirtual 43, 3) := by decide +kernel
theorem d_Gr_sortOfCode_5 : decode b_Gr_sortOfCode 5 = .ok (.ifCond .ne 5, 3) := by decide +kernel
theorem d_Gr_sortOfCode_8 : decode b_Gr_sortOfCode 8 = .ok (.iconst (-1), 1) := by decide +kernel
theorem d_Gr_sortOfCode_9 : decode b_Gr_sortOfCode 9 = .ok (.ireturn, 1) := by decide +kernel
theorem d_Gr_sortOfCode_10 : decode b_Gr_sortOfCode 10 = .ok (.iload_n 1, 1) := by decide +kernel
theorem d_Gr_sortOfCode_11 : decode b_Gr_sortOfCode 11 = .ok (.ifCond .ge 14, 3) := by decide +kernel
theorem d_Gr_sortOfCode_14 : decode b_Gr_sortOfCode 14 = .ok (.aload_n 0, 1) := by decide +kernel
theorem d_Gr_sortOfCode_15 : decode b_Gr_sortOfCode 15 = .ok (.getfield 9, 3) := by decide +kernel
theorem d_Gr_sortOfCode_18 : decode b_Gr_sortOfCode 18 = .ok (.iconst (-1), 1) := by decide +kernel
theorem d_Gr_sortOfCode_19 : decode b_Gr_sortOfCode 19 = .ok (.iload_n 1, 1) := by decide +kernel
theorem d_Gr_sortOfCode_20 : decode b_Gr_sortOfCode 20 = .ok (.isub, 1) := by decide +kernel
theorem d_Gr_sortOfCode_21 : decode b_Gr_sortOfCode 21 = .ok (.iaload, 1) := by decide +kernel
theorem d_Gr_sortOfCode_22 : decode b_Gr_sortOfCode 22 = .ok (.goto 9, 3) := by decide +kernel
theorem d_Gr_sortOfCode_25 : decode b_Gr_sortOfCode 25 = .ok (.aload_n 0, 1) := by decide +kernel
theorem d_Gr_sortOfCode_26 : decode b_Gr_sortOfCode 26 = .ok (.getfield 15, 3) := by decide +kernel
theorem d_Gr_sortOfCode_29 : decode b_Gr_sortOfCode 29 = .ok (.iload_n 1, 1) := by decide +kernel
theorem d_Gr_sortOfCode_30 : decode b_Gr_sortOfCode 30 = .ok (.iaload, 1) := by decide +kernel
theorem d_Gr_sortOfCode_31 : decode b_Gr_sortOfCode 31 = .ok (.ireturn, 1) := by decide +kernel
theorem ml_Gr_43 : Cond.methodLink R_Gr 43 ⟨"RuleTrees$Grammar", "hasCode", "(I)Z"⟩ ∈ TB := tb_of 395 (by decide +kernel) (by decide +kernel)
theorem u_Gr_hasCode : (Cond.instanceMethod y_Gr_hasCode ∈ TB ∧ Cond.selects R_Gr y_Gr_hasCode y_Gr_hasCode ∈ TB) ∧ Cond.initialized R_Gr ∈ TB ∧ Cond.code y_Gr_hasCode b_Gr_hasCode 2 (some .boolean) ∈ TB := ⟨⟨(tb_of 396 (by decide +kernel) (by decide +kernel)), (tb_of 397 (by decide +kernel) (by decide +kernel))⟩, (tb_of 63 (by decide +kernel) (by decide +kernel)), k_Gr_hasCode⟩
theorem fl_Gr_15 : Cond.fieldLink R_Gr 15 "RuleTrees$Grammar" "ruleSort" "[I" ∈ TB := tb_of 97 (by decide +kernel) (by decide +kernel)
theorem fl_Gr_9 : Cond.fieldLink R_Gr 9 "RuleTrees$Grammar" "variableSort" "[I" ∈ TB := tb_of 96 (by decide +kernel) (by decide +kernel)
abbrev rm_Gr_sortOfCode : Room := { frames := 1, cells := 0, slots := 0, locals := 21 }
def f_Gr_sortOfCode_0 (s_self : Nat → Nat → Int32) (v1 : Int32) : Option ((Int32)) :=
  bd1 (m_Gr_hasCode s_self v1) fun r_1 =>
  if r_1 = 0 then
    some ((-1))
  else
    if 0 ≤ v1 then
      ck v1 30 <|
      some (s_self 2 (Int32.toNatClampNeg v1))
    else
      ck ((-1) - v1) 20 <|
      some (s_self 1 (Int32.toNatClampNeg ((-1) - v1)))
set_option maxHeartbeats 4000000 in
set_option maxRecDepth 100000 in
theorem t_Gr_sortOfCode_0 {p : Program} {l : Launch} {e : Env} {s : State} {m : MethodId} {args : Array Value} {below : List Frame} {meth : Method} {c : Code} {A : Nat → Prop} {D : va_G} {K : Nat → ClassId} (a_self : Nat → Nat) (X : gx p s m args c b_Gr_sortOfCode 2 R_Gr w_Gr_sortOfCode D classes (tyK K) A) (hr : meth.sig.returnType = some .int) (hlk : meth.locks = false) (r : Int32) (s_self : Nat → Nat → Int32) (v1 : Int32) (h : f_Gr_sortOfCode_0 s_self v1 = some r) : Gd p l e rm_Gr_sortOfCode s m args below meth c 0 0 (MQ below (sq D classes (tyK K) (some (.int r)) [wd_Gr K a_self s_self] A) args s 0 0 A) D classes A 2 0 [wd_Gr K a_self s_self] [(0, .ref (a_self 0)), (1, .int v1)] [] := by
  unfold f_Gr_sortOfCode_0 at h
  refine gd_aload_n X d_Gr_sortOfCode_0 0 rfl ?_
  refine gd_iload_n X d_Gr_sortOfCode_1 1 rfl ?_
  obtain ⟨r_1, hc_2, h⟩ := bd1_e h
  refine gd_fI X (gd_V X (As := [.int v1]) (rest := []) (c_Gr_hasCode l D K a_self s_self v1 r_1 hc_2) 1 (gi_V ml_Gr_43 u_Gr_hasCode) rfl ⟨rfl, rfl⟩ (by decide +kernel) ⟨by decide, by decide⟩ (ci := 1) rfl rfl rfl rfl rfl rfl (Nat.le_of_ble_eq_true rfl) ⟨Nat.zero_le _, Nat.zero_le _⟩ d_Gr_sortOfCode_2) ?_
  refine gd_if_ne X (tgt := 10) d_Gr_sortOfCode_5 (by decide) (fun c_3 => ?_) (fun c_3 => ?_)
  · replace h := it_n c_3 h
    refine gd_iload_n X d_Gr_sortOfCode_10 1 rfl ?_
    refine gd_if_ge X (tgt := 25) d_Gr_sortOfCode_11 (by decide) (fun c_4 => ?_) (fun c_4 => ?_)
    · replace h := it_p c_4 h
      refine gd_aload_n X d_Gr_sortOfCode_25 0 rfl ?_
      refine gd_get X (ci := 1) (C := R_Gr) (T := F_Gr) (N := 12) (v := .ref (a_self 2)) 0 0 rfl rfl rfl (in_Gr _) 6 (by decide) (List.mem_cons_of_mem _ fl_Gr_15) rfl rfl d_Gr_sortOfCode_26 ?_
      refine gd_iload_n X d_Gr_sortOfCode_29 1 rfl ?_
      obtain ⟨hi_5, h⟩ := ck_e h
      refine gd_iald X 0 2 0 rfl rfl rfl hi_5 d_Gr_sortOfCode_30 ?_
      cases h
      exact gd_iret X hr hlk d_Gr_sortOfCode_31
    · replace h := it_n c_4 h
      refine gd_aload_n X d_Gr_sortOfCode_14 0 rfl ?_
      refine gd_get X (ci := 1) (C := R_Gr) (T := F_Gr) (N := 12) (v := .ref (a_self 1)) 0 0 rfl rfl rfl (in_Gr _) 5 (by decide) (List.mem_cons_of_mem _ fl_Gr_9) rfl rfl d_Gr_sortOfCode_15 ?_
      refine gd_iconst X (v := (-1)) d_Gr_sortOfCode_18 (by decide) ?_
      refine gd_iload_n X d_Gr_sortOfCode_19 1 rfl ?_
      refine gd_isub X d_Gr_sortOfCode_20 ?_
      obtain ⟨hi_6, h⟩ := ck_e h
      refine gd_iald X 0 1 0 rfl rfl rfl hi_6 d_Gr_sortOfCode_21 ?_
      refine gd_goto X (tgt := 31) d_Gr_sortOfCode_22 (by decide) ?_
      cases h
      exact gd_iret X hr hlk d_Gr_sortOfCode_31
  · replace h := it_p c_3 h
    refine gd_iconst X (v := (-1)) d_Gr_sortOfCode_8 (by decide) ?_
    cases h
    exact gd_iret X hr hlk d_Gr_sortOfCode_9
def m_Gr_sortOfCode (s_self : Nat → Nat → Int32) (v1 : Int32) : Option ((Int32)) := f_Gr_sortOfCode_0 s_self v1
set_option maxHeartbeats 4000000 in
set_option maxRecDepth 100000 in
theorem c_Gr_sortOfCode (l : Launch) (D : va_G) (K : Nat → ClassId) (a_self : Nat → Nat) (s_self : Nat → Nat → Int32) (v1 : Int32) (r : Int32) (h : m_Gr_sortOfCode s_self v1 = some r) : SMet l y_Gr_sortOfCode w_Gr_sortOfCode rm_Gr_sortOfCode D classes (tyK K) [.ref (a_self 0), .int v1] (some (.int r)) [wd_Gr K a_self s_self] [wd_Gr K a_self s_self] := by
  refine sm_of R_Gr (by decide) rfl rfl (Nat.le_of_ble_eq_true rfl) ?_
  intro p e s m below meth c A X hr hlk
  refine gd_loc (lv' := [(0, .ref (a_self 0)), (1, .int v1)]) [0, 1] rfl ?_
  exact t_Gr_sortOfCode_0 a_self X hr hlk r s_self v1 h
abbrev b_Gr_slotsOfCode : ByteArray := prog_3_method_7_code
def y_Gr_slotsOfCode : MethodName := ⟨R_Gr, "slotsOfCode", "(I)I"⟩
def w_Gr_slotsOfCode : List Cond := .code y_Gr_slotsOfCode b_Gr_slotsOfCode 2 (some .int) :: TB
theorem k_Gr_slotsOfCode : Cond.code y_Gr_slotsOfCode b_Gr_slotsOfCode 2 (some .int) ∈ TB := tb_of 390 (by decide +kernel) (by decide +kernel)
theorem d_Gr_slotsOfCode_0 : decode b_Gr_slotsOfCode 0 = .ok (.aload_n 0, 1) := by decide +kernel
theorem d_Gr_slotsOfCode_1 : decode b_Gr_slotsOfCode 1 = .ok (.iload_n 1, 1) := by decide +kernel
theorem d_Gr_slotsOfCode_2 : decode b_Gr_slotsOfCode 2 = .ok (.invokevirtual 47, 3) := by decide +kernel
theorem d_Gr_slotsOfCode_5 : decode b_Gr_slotsOfCode 5 = .ok (.ifCond .eq 12, 3) := by decide +kernel
theorem d_Gr_slotsOfCode_8 : decode b_Gr_slotsOfCode 8 = .ok (.aload_n 0, 1) := by decide +kernel
theorem d_Gr_slotsOfCode_9 : decode b_Gr_slotsOfCode 9 = .ok (.getfield 27, 3) := by decide +kernel
theorem d_Gr_slotsOfCode_12 : decode b_Gr_slotsOfCode 12 = .ok (.iload_n 1, 1) := by decide +kernel
theorem d_Gr_slotsOfCode_13 : decode b_Gr_slotsOfCode 13 = .ok (.iaload, 1) := by decide +kernel
theorem d_Gr_slotsOfCode_14 : decode b_Gr_slotsOfCode 14 = .ok (.goto 4, 3) := by decide +kernel
theorem d_Gr_slotsOfCode_17 : decode b_Gr_slotsOfCode 17 = .ok (.iconst 0, 1) := by decide +kernel
theorem d_Gr_slotsOfCode_18 : decode b_Gr_slotsOfCode 18 = .ok (.ireturn, 1) := by decide +kernel
theorem ml_Gr_47 : Cond.methodLink R_Gr 47 ⟨"RuleTrees$Grammar", "hasRule", "(I)Z"⟩ ∈ TB := tb_of 383 (by decide +kernel) (by decide +kernel)
theorem u_Gr_hasRule : (Cond.instanceMethod y_Gr_hasRule ∈ TB ∧ Cond.selects R_Gr y_Gr_hasRule y_Gr_hasRule ∈ TB) ∧ Cond.initialized R_Gr ∈ TB ∧ Cond.code y_Gr_hasRule b_Gr_hasRule 2 (some .boolean) ∈ TB := ⟨⟨(tb_of 384 (by decide +kernel) (by decide +kernel)), (tb_of 385 (by decide +kernel) (by decide +kernel))⟩, (tb_of 63 (by decide +kernel) (by decide +kernel)), k_Gr_hasRule⟩
theorem fl_Gr_27 : Cond.fieldLink R_Gr 27 "RuleTrees$Grammar" "slotCount" "[I" ∈ TB := tb_of 101 (by decide +kernel) (by decide +kernel)
abbrev rm_Gr_slotsOfCode : Room := { frames := 1, cells := 0, slots := 0, locals := 21 }
def f_Gr_slotsOfCode_0 (s_self : Nat → Nat → Int32) (v1 : Int32) : Option ((Int32)) :=
  bd1 (m_Gr_hasRule s_self v1) fun r_1 =>
  if r_1 = 0 then
    some (0)
  else
    ck v1 30 <|
    some (s_self 6 (Int32.toNatClampNeg v1))
set_option maxHeartbeats 4000000 in
set_option maxRecDepth 100000 in
theorem t_Gr_slotsOfCode_0 {p : Program} {l : Launch} {e : Env} {s : State} {m : MethodId} {args : Array Value} {below : List Frame} {meth : Method} {c : Code} {A : Nat → Prop} {D : va_G} {K : Nat → ClassId} (a_self : Nat → Nat) (X : gx p s m args c b_Gr_slotsOfCode 2 R_Gr w_Gr_slotsOfCode D classes (tyK K) A) (hr : meth.sig.returnType = some .int) (hlk : meth.locks = false) (r : Int32) (s_self : Nat → Nat → Int32) (v1 : Int32) (h : f_Gr_slotsOfCode_0 s_self v1 = some r) : Gd p l e rm_Gr_slotsOfCode s m args below meth c 0 0 (MQ below (sq D classes (tyK K) (some (.int r)) [wd_Gr K a_self s_self] A) args s 0 0 A) D classes A 2 0 [wd_Gr K a_self s_self] [(0, .ref (a_self 0)), (1, .int v1)] [] := by
  unfold f_Gr_slotsOfCode_0 at h
  refine gd_aload_n X d_Gr_slotsOfCode_0 0 rfl ?_
  refine gd_iload_n X d_Gr_slotsOfCode_1 1 rfl ?_
  obtain ⟨r_1, hc_2, h⟩ := bd1_e h
  refine gd_fI X (gd_V X (As := [.int v1]) (rest := []) (c_Gr_hasRule l D K a_self s_self v1 r_1 hc_2) 1 (gi_V ml_Gr_47 u_Gr_hasRule) rfl ⟨rfl, rfl⟩ (by decide +kernel) ⟨by decide, by decide⟩ (ci := 1) rfl rfl rfl rfl rfl rfl (Nat.le_of_ble_eq_true rfl) ⟨Nat.zero_le _, Nat.zero_le _⟩ d_Gr_slotsOfCode_2) ?_
  refine gd_if_eq X (tgt := 17) d_Gr_slotsOfCode_5 (by decide) (fun c_3 => ?_) (fun c_3 => ?_)
  · replace h := it_p c_3 h
    refine gd_iconst X (v := 0) d_Gr_slotsOfCode_17 (by decide) ?_
    cases h
    exact gd_iret X hr hlk d_Gr_slotsOfCode_18
  · replace h := it_n c_3 h
    refine gd_aload_n X d_Gr_slotsOfCode_8 0 rfl ?_
    refine gd_get X (ci := 1) (C := R_Gr) (T := F_Gr) (N := 12) (v := .ref (a_self 6)) 0 0 rfl rfl rfl (in_Gr _) 10 (by decide) (List.mem_cons_of_mem _ fl_Gr_27) rfl rfl d_Gr_slotsOfCode_9 ?_
    refine gd_iload_n X d_Gr_slotsOfCode_12 1 rfl ?_
    obtain ⟨hi_4, h⟩ := ck_e h
    refine gd_iald X 0 6 0 rfl rfl rfl hi_4 d_Gr_slotsOfCode_13 ?_
    refine gd_goto X (tgt := 18) d_Gr_slotsOfCode_14 (by decide) ?_
    cases h
    exact gd_iret X hr hlk d_Gr_slotsOfCode_18
def m_Gr_slotsOfCode (s_self : Nat → Nat → Int32) (v1 : Int32) : Option ((Int32)) := f_Gr_slotsOfCode_0 s_self v1
set_option maxHeartbeats 4000000 in
set_option maxRecDepth 100000 in
theorem c_Gr_slotsOfCode (l : Launch) (D : va_G) (K : Nat → ClassId) (a_self : Nat → Nat) (s_self : Nat → Nat → Int32) (v1 : Int32) (r : Int32) (h : m_Gr_slotsOfCode s_self v1 = some r) : SMet l y_Gr_slotsOfCode w_Gr_slotsOfCode rm_Gr_slotsOfCode D classes (tyK K) [.ref (a_self 0), .int v1] (some (.int r)) [wd_Gr K a_self s_self] [wd_Gr K a_self s_self] := by
  refine sm_of R_Gr (by decide) rfl rfl (Nat.le_of_ble_eq_true rfl) ?_
  intro p e s m below meth c A X hr hlk
  refine gd_loc (lv' := [(0, .ref (a_self 0)), (1, .int v1)]) [0, 1] rfl ?_
  exact t_Gr_slotsOfCode_0 a_self X hr hlk r s_self v1 h
abbrev b_Gr_lengthOfRule : ByteArray := prog_3_method_8_code
def y_Gr_lengthOfRule : MethodName := ⟨R_Gr, "lengthOfRule", "(I)I"⟩
def w_Gr_lengthOfRule : List Cond := .code y_Gr_lengthOfRule b_Gr_lengthOfRule 2 (some .int) :: TB
theorem k_Gr_lengthOfRule : Cond.code y_Gr_lengthOfRule b_Gr_lengthOfRule 2 (some .int) ∈ TB := tb_of 382 (by decide +kernel) (by decide +kernel)
theorem d_Gr_lengthOfRule_0 : decode b_Gr_lengthOfRule 0 = .ok (.aload_n 0, 1) := by decide +kernel
theorem d_Gr_lengthOfRule_1 : decode b_Gr_lengthOfRule 1 = .ok (.iload_n 1, 1) := by decide +kernel
theorem d_Gr_lengthOfRule_2 : decode b_Gr_lengthOfRule 2 = .ok (.invokevirtual 47, 3) := by decide +kernel
theorem d_Gr_lengthOfRule_5 : decode b_Gr_lengthOfRule 5 = .ok (.ifCond .eq 12, 3) := by decide +kernel
theorem d_Gr_lengthOfRule_8 : decode b_Gr_lengthOfRule 8 = .ok (.aload_n 0, 1) := by decide +kernel
theorem d_Gr_lengthOfRule_9 : decode b_Gr_lengthOfRule 9 = .ok (.getfield 18, 3) := by decide +kernel
theorem d_Gr_lengthOfRule_12 : decode b_Gr_lengthOfRule 12 = .ok (.iload_n 1, 1) := by decide +kernel
theorem d_Gr_lengthOfRule_13 : decode b_Gr_lengthOfRule 13 = .ok (.iaload, 1) := by decide +kernel
theorem d_Gr_lengthOfRule_14 : decode b_Gr_lengthOfRule 14 = .ok (.goto 4, 3) := by decide +kernel
theorem d_Gr_lengthOfRule_17 : decode b_Gr_lengthOfRule 17 = .ok (.iconst 0, 1) := by decide +kernel
theorem d_Gr_lengthOfRule_18 : decode b_Gr_lengthOfRule 18 = .ok (.ireturn, 1) := by decide +kernel
theorem fl_Gr_18 : Cond.fieldLink R_Gr 18 "RuleTrees$Grammar" "ruleLength" "[I" ∈ TB := tb_of 98 (by decide +kernel) (by decide +kernel)
abbrev rm_Gr_lengthOfRule : Room := { frames := 1, cells := 0, slots := 0, locals := 21 }
def f_Gr_lengthOfRule_0 (s_self : Nat → Nat → Int32) (v1 : Int32) : Option ((Int32)) :=
  bd1 (m_Gr_hasRule s_self v1) fun r_1 =>
  if r_1 = 0 then
    some (0)
  else
    ck v1 30 <|
    some (s_self 3 (Int32.toNatClampNeg v1))
set_option maxHeartbeats 4000000 in
set_option maxRecDepth 100000 in
theorem t_Gr_lengthOfRule_0 {p : Program} {l : Launch} {e : Env} {s : State} {m : MethodId} {args : Array Value} {below : List Frame} {meth : Method} {c : Code} {A : Nat → Prop} {D : va_G} {K : Nat → ClassId} (a_self : Nat → Nat) (X : gx p s m args c b_Gr_lengthOfRule 2 R_Gr w_Gr_lengthOfRule D classes (tyK K) A) (hr : meth.sig.returnType = some .int) (hlk : meth.locks = false) (r : Int32) (s_self : Nat → Nat → Int32) (v1 : Int32) (h : f_Gr_lengthOfRule_0 s_self v1 = some r) : Gd p l e rm_Gr_lengthOfRule s m args below meth c 0 0 (MQ below (sq D classes (tyK K) (some (.int r)) [wd_Gr K a_self s_self] A) args s 0 0 A) D classes A 2 0 [wd_Gr K a_self s_self] [(0, .ref (a_self 0)), (1, .int v1)] [] := by
  unfold f_Gr_lengthOfRule_0 at h
  refine gd_aload_n X d_Gr_lengthOfRule_0 0 rfl ?_
  refine gd_iload_n X d_Gr_lengthOfRule_1 1 rfl ?_
  obtain ⟨r_1, hc_2, h⟩ := bd1_e h
  refine gd_fI X (gd_V X (As := [.int v1]) (rest := []) (c_Gr_hasRule l D K a_self s_self v1 r_1 hc_2) 1 (gi_V ml_Gr_47 u_Gr_hasRule) rfl ⟨rfl, rfl⟩ (by decide +kernel) ⟨by decide, by decide⟩ (ci := 1) rfl rfl rfl rfl rfl rfl (Nat.le_of_ble_eq_true rfl) ⟨Nat.zero_le _, Nat.zero_le _⟩ d_Gr_lengthOfRule_2) ?_
  refine gd_if_eq X (tgt := 17) d_Gr_lengthOfRule_5 (by decide) (fun c_3 => ?_) (fun c_3 => ?_)
  · replace h := it_p c_3 h
    refine gd_iconst X (v := 0) d_Gr_lengthOfRule_17 (by decide) ?_
    cases h
    exact gd_iret X hr hlk d_Gr_lengthOfRule_18
  · replace h := it_n c_3 h
    refine gd_aload_n X d_Gr_lengthOfRule_8 0 rfl ?_
    refine gd_get X (ci := 1) (C := R_Gr) (T := F_Gr) (N := 12) (v := .ref (a_self 3)) 0 0 rfl rfl rfl (in_Gr _) 7 (by decide) (List.mem_cons_of_mem _ fl_Gr_18) rfl rfl d_Gr_lengthOfRule_9 ?_
    refine gd_iload_n X d_Gr_lengthOfRule_12 1 rfl ?_
    obtain ⟨hi_4, h⟩ := ck_e h
    refine gd_iald X 0 3 0 rfl rfl rfl hi_4 d_Gr_lengthOfRule_13 ?_
    refine gd_goto X (tgt := 18) d_Gr_lengthOfRule_14 (by decide) ?_
    cases h
    exact gd_iret X hr hlk d_Gr_lengthOfRule_18
def m_Gr_lengthOfRule (s_self : Nat → Nat → Int32) (v1 : Int32) : Option ((Int32)) := f_Gr_lengthOfRule_0 s_self v1
set_option maxHeartbeats 4000000 in
set_option maxRecDepth 100000 in
theorem c_Gr_lengthOfRule (l : Launch) (D : va_G) (K : Nat → ClassId) (a_self : Nat → Nat) (s_self : Nat → Nat → Int32) (v1 : Int32) (r : Int32) (h : m_Gr_lengthOfRule s_self v1 = some r) : SMet l y_Gr_lengthOfRule w_Gr_lengthOfRule rm_Gr_lengthOfRule D classes (tyK K) [.ref (a_self 0), .int v1] (some (.int r)) [wd_Gr K a_self s_self] [wd_Gr K a_self s_self] := by
  refine sm_of R_Gr (by decide) rfl rfl (Nat.le_of_ble_eq_true rfl) ?_
  intro p e s m below meth c A X hr hlk
  refine gd_loc (lv' := [(0, .ref (a_self 0)), (1, .int v1)]) [0, 1] rfl ?_
  exact t_Gr_lengthOfRule_0 a_self X hr hlk r s_self v1 h
