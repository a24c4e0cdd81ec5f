abbrev b_Sr_lengthBy : ByteArray := prog_5_method_5_code
def y_Sr_lengthBy : MethodName := ⟨R_Sr, "lengthBy", "(I)I"⟩
def w_Sr_lengthBy : List Cond := .code y_Sr_lengthBy b_Sr_lengthBy 6 (some .int) :: TB
theorem k_Sr_lengthBy : Cond.code y_Sr_lengthBy b_Sr_lengthBy 6 (some .int) ∈ TB := tb_of 658 (by decide +kernel) (by decide +kernel)
theorem d_Sr_lengthBy_0 : decode b_Sr_lengthBy 0 = .ok (.iconst 0, 1) := by decide +kernel
theorem d_Sr_lengthBy_1 : decode b_Sr_lengthBy 1 = .ok (.istore_n 2, 1) := by decide +kernel
theorem d_Sr_lengthBy_2 : decode b_Sr_lengthBy 2 = .ok (.iconst 0, 1) := by decide +kernel
theorem d_Sr_lengthBy_3 : decode b_Sr_lengthBy 3 = .ok (.istore_n 3, 1) := by decide +kernel
theorem d_Sr_lengthBy_4 : decode b_Sr_lengthBy 4 = .ok (.iload_n 3, 1) := by decide +kernel
theorem d_Sr_lengthBy_5 : decode b_Sr_lengthBy 5 = .ok (.aload_n 0, 1) := by decide +kernel
theorem d_Sr_lengthBy_6 : decode b_Sr_lengthBy 6 = .ok (.getfield 9, 3) := by decide +kernel
theorem d_Sr_lengthBy_9 : decode b_Sr_lengthBy 9 = .ok (.iload_n 1, 1) := by decide +kernel
theorem d_Sr_lengthBy_10 : decode b_Sr_lengthBy 10 = .ok (.invokevirtual 39, 3) := by decide +kernel
theorem d_Sr_lengthBy_13 : decode b_Sr_lengthBy 13 = .ok (.if_icmp .ge 59, 3) := by decide +kernel
theorem d_Sr_lengthBy_16 : decode b_Sr_lengthBy 16 = .ok (.aload_n 0, 1) := by decide +kernel
theorem d_Sr_lengthBy_17 : decode b_Sr_lengthBy 17 = .ok (.getfield 9, 3) := by decide +kernel
theorem d_Sr_lengthBy_20 : decode b_Sr_lengthBy 20 = .ok (.iload_n 1, 1) := by decide +kernel
theorem d_Sr_lengthBy_21 : decode b_Sr_lengthBy 21 = .ok (.iload_n 3, 1) := by decide +kernel
theorem d_Sr_lengthBy_22 : decode b_Sr_lengthBy 22 = .ok (.invokevirtual 42, 3) := by decide +kernel
theorem d_Sr_lengthBy_25 : decode b_Sr_lengthBy 25 = .ok (.istore 4, 2) := by decide +kernel
theorem d_Sr_lengthBy_27 : decode b_Sr_lengthBy 27 = .ok (.iload 4, 2) := by decide +kernel
theorem d_Sr_lengthBy_29 : decode b_Sr_lengthBy 29 = .ok (.iconst (-1), 1) := by decide +kernel
theorem d_Sr_lengthBy_30 : decode b_Sr_lengthBy 30 = .ok (.if_icmp .ne 7, 3) := by decide +kernel
theorem d_Sr_lengthBy_33 : decode b_Sr_lengthBy 33 = .ok (.iconst 1, 1) := by decide +kernel
theorem d_Sr_lengthBy_34 : decode b_Sr_lengthBy 34 = .ok (.goto 17, 3) := by decide +kernel
theorem d_Sr_lengthBy_37 : decode b_Sr_lengthBy 37 = .ok (.aload_n 0, 1) := by decide +kernel
theorem d_Sr_lengthBy_38 : decode b_Sr_lengthBy 38 = .ok (.aload_n 0, 1) := by decide +kernel
theorem d_Sr_lengthBy_39 : decode b_Sr_lengthBy 39 = .ok (.getfield 9, 3) := by decide +kernel
theorem d_Sr_lengthBy_42 : decode b_Sr_lengthBy 42 = .ok (.iload_n 1, 1) := by decide +kernel
theorem d_Sr_lengthBy_43 : decode b_Sr_lengthBy 43 = .ok (.iload 4, 2) := by decide +kernel
theorem d_Sr_lengthBy_45 : decode b_Sr_lengthBy 45 = .ok (.invokevirtual 46, 3) := by decide +kernel
theorem d_Sr_lengthBy_48 : decode b_Sr_lengthBy 48 = .ok (.invokevirtual 36, 3) := by decide +kernel
theorem d_Sr_lengthBy_51 : decode b_Sr_lengthBy 51 = .ok (.istore 5, 2) := by decide +kernel
theorem d_Sr_lengthBy_53 : decode b_Sr_lengthBy 53 = .ok (.iload 5, 2) := by decide +kernel
theorem d_Sr_lengthBy_55 : decode b_Sr_lengthBy 55 = .ok (.iconst (-1), 1) := by decide +kernel
theorem d_Sr_lengthBy_56 : decode b_Sr_lengthBy 56 = .ok (.if_icmp .ne 5, 3) := by decide +kernel
theorem d_Sr_lengthBy_59 : decode b_Sr_lengthBy 59 = .ok (.iconst (-1), 1) := by decide +kernel
theorem d_Sr_lengthBy_60 : decode b_Sr_lengthBy 60 = .ok (.ireturn, 1) := by decide +kernel
theorem d_Sr_lengthBy_61 : decode b_Sr_lengthBy 61 = .ok (.iload_n 2, 1) := by decide +kernel
theorem d_Sr_lengthBy_62 : decode b_Sr_lengthBy 62 = .ok (.iload 5, 2) := by decide +kernel
theorem d_Sr_lengthBy_64 : decode b_Sr_lengthBy 64 = .ok (.iadd, 1) := by decide +kernel
theorem d_Sr_lengthBy_65 : decode b_Sr_lengthBy 65 = .ok (.istore_n 2, 1) := by decide +kernel
theorem d_Sr_lengthBy_66 : decode b_Sr_lengthBy 66 = .ok (.iinc 3 1, 3) := by decide +kernel
theorem d_Sr_lengthBy_69 : decode b_Sr_lengthBy 69 = .ok (.goto (-65), 3) := by decide +kernel
theorem d_Sr_lengthBy_72 : decode b_Sr_lengthBy 72 = .ok (.iload_n 2, 1) := by decide +kernel
theorem d_Sr_lengthBy_73 : decode b_Sr_lengthBy 73 = .ok (.ireturn, 1) := by decide +kernel
theorem fl_Sr_9 : Cond.fieldLink R_Sr 9 "RuleTrees$ShortestRows" "grammar" "LRuleTrees$Grammar;" ∈ TB := tb_of 252 (by decide +kernel) (by decide +kernel)
theorem ml_Sr_39 : Cond.methodLink R_Sr 39 ⟨"RuleTrees$Grammar", "lengthOfRule", "(I)I"⟩ ∈ TB := tb_of 659 (by decide +kernel) (by decide +kernel)
theorem ml_Sr_42 : Cond.methodLink R_Sr 42 ⟨"RuleTrees$Grammar", "slotAt", "(II)I"⟩ ∈ TB := tb_of 660 (by decide +kernel) (by decide +kernel)
theorem ml_Sr_46 : Cond.methodLink R_Sr 46 ⟨"RuleTrees$Grammar", "sortOfSlot", "(II)I"⟩ ∈ TB := tb_of 661 (by decide +kernel) (by decide +kernel)
theorem ml_Sr_36 : Cond.methodLink R_Sr 36 ⟨"RuleTrees$ShortestRows", "lengthSoFar", "(I)I"⟩ ∈ TB := tb_of 662 (by decide +kernel) (by decide +kernel)
theorem u_Sr_lengthSoFar : (Cond.instanceMethod y_Sr_lengthSoFar ∈ TB ∧ Cond.selects R_Sr y_Sr_lengthSoFar y_Sr_lengthSoFar ∈ TB) ∧ Cond.initialized R_Sr ∈ TB ∧ Cond.code y_Sr_lengthSoFar b_Sr_lengthSoFar 2 (some .int) ∈ TB := ⟨⟨(tb_of 664 (by decide +kernel) (by decide +kernel)), (tb_of 30 (by decide +kernel) (by decide +kernel))⟩, (tb_of 69 (by decide +kernel) (by decide +kernel)), k_Sr_lengthSoFar⟩
abbrev rm_Sr_lengthBy : Room := { frames := 2, cells := 0, slots := 0, locals := 43 }
def f_Sr_lengthBy_51 (N : Nat) (kb : Int32 → Int32 → Option ((Int32))) (kx59 : Option ((Int32))) (kx72 : Int32 → Option ((Int32))) (s_self s_grammar : Nat → Nat → Int32) (v1 v2 v3 : Int32) (k0 : Int32) : Option ((Int32)) :=
  if k0 = (-1) then
    kx59
  else
    nm (v2 + k0) fun v2_2 =>
    nm (v3 + 1) fun v3_3 =>
    kb v2_2 v3_3
set_option maxHeartbeats 4000000 in
set_option maxRecDepth 100000 in
theorem t_Sr_lengthBy_51 {p : Program} {l : Launch} {e : Env} {s : State} {m : MethodId} {args : Array Value} {below : List Frame} {meth : Method} {c : Code} {A : Nat → Prop} {D : va_G} {K : Nat → ClassId} (a_self a_grammar : Nat → Nat) (X : gx p s m args c b_Sr_lengthBy 6 R_Sr w_Sr_lengthBy D classes (tyK K) A) (hr : meth.sig.returnType = some .int) (hlk : meth.locks = false) (N : Nat) (r : Int32) (s_self s_grammar : Nat → Nat → Int32) (v1 v2 v3 : Int32) (k0 : Int32) (kb : Int32 → Int32 → Option ((Int32))) (hkb : ∀ (v2 v3 : Int32), kb v2 v3 = some r → Gd p l e rm_Sr_lengthBy s m args below meth c 0 0 (MQ below (sq D classes (tyK K) (some (.int r)) [wd_Sr K a_self (a_grammar 0) s_self, wd_Gr K a_grammar s_grammar] A) args s 0 0 A) D classes A 6 4 [wd_Sr K a_self (a_grammar 0) s_self, wd_Gr K a_grammar s_grammar] [(0, .ref (a_self 0)), (1, .int v1), (2, .int v2), (3, .int v3)] []) (kx59 : Option ((Int32))) (hkx59 : kx59 = some r → Gd p l e rm_Sr_lengthBy s m args below meth c 0 0 (MQ below (sq D classes (tyK K) (some (.int r)) [wd_Sr K a_self (a_grammar 0) s_self, wd_Gr K a_grammar s_grammar] A) args s 0 0 A) D classes A 6 59 [wd_Sr K a_self (a_grammar 0) s_self, wd_Gr K a_grammar s_grammar] [] []) (kx72 : Int32 → Option ((Int32))) (hkx72 : ∀ (v2 : Int32), kx72 v2 = some r → Gd p l e rm_Sr_lengthBy s m args below meth c 0 0 (MQ below (sq D classes (tyK K) (some (.int r)) [wd_Sr K a_self (a_grammar 0) s_self, wd_Gr K a_grammar s_grammar] A) args s 0 0 A) D classes A 6 72 [wd_Sr K a_self (a_grammar 0) s_self, wd_Gr K a_grammar s_grammar] [(2, .int v2)] []) (h : f_Sr_lengthBy_51 N kb kx59 kx72 s_self s_grammar v1 v2 v3 k0 = some r) : Gd p l e rm_Sr_lengthBy s m args below meth c 0 0 (MQ below (sq D classes (tyK K) (some (.int r)) [wd_Sr K a_self (a_grammar 0) s_self, wd_Gr K a_grammar s_grammar] A) args s 0 0 A) D classes A 6 51 [wd_Sr K a_self (a_grammar 0) s_self, wd_Gr K a_grammar s_grammar] [(0, .ref (a_self 0)), (1, .int v1), (2, .int v2), (3, .int v3)] [.int k0] := by
  unfold f_Sr_lengthBy_51 at h
  refine gd_istore X (lv' := [(5, .int k0), (0, .ref (a_self 0)), (1, .int v1), (2, .int v2), (3, .int v3)]) d_Sr_lengthBy_51 (by decide) rfl ?_
  refine gd_iload X d_Sr_lengthBy_53 0 rfl ?_
  refine gd_iconst X (v := (-1)) d_Sr_lengthBy_55 (by decide) ?_
  refine gd_icmp_ne X (tgt := 61) d_Sr_lengthBy_56 (by decide) (fun c_1 => ?_) (fun c_1 => ?_)
  · replace h := it_n c_1 h
    refine gd_iload_n X d_Sr_lengthBy_61 3 rfl ?_
    refine gd_iload X d_Sr_lengthBy_62 0 rfl ?_
    refine gd_iadd X d_Sr_lengthBy_64 ?_
    obtain ⟨v2_2, ev2_2, h⟩ := nm_e' h
    refine gd_topi ev2_2 ?_
    refine gd_istore_n X (lv' := [(2, .int v2_2), (5, .int k0), (0, .ref (a_self 0)), (1, .int v1), (3, .int v3)]) d_Sr_lengthBy_65 rfl (by decide) rfl ?_
    obtain ⟨v3_3, ev3_3, h⟩ := nm_e' h
    refine gd_iinc X (v := v3_3) (lv' := [(3, .int v3_3), (2, .int v2_2), (5, .int k0), (0, .ref (a_self 0)), (1, .int v1)]) d_Sr_lengthBy_66 (k := 4) rfl (by rw [ev3_3]; rfl) (by decide) rfl ?_
    refine gd_goto X (tgt := 4) d_Sr_lengthBy_69 (by decide) ?_
    refine gd_loc (lv' := [(0, .ref (a_self 0)), (1, .int v1), (2, .int v2_2), (3, .int v3_3)]) [3, 4, 1, 0] rfl ?_
    exact hkb v2_2 v3_3 h
  · replace h := it_p c_1 h
    refine gd_loc (lv' := []) [] rfl ?_
    exact hkx59 h
def f_Sr_lengthBy_4 (N : Nat) (kb : Int32 → Int32 → Option ((Int32))) (kx59 : Option ((Int32))) (kx72 : Int32 → Option ((Int32))) (s_self s_grammar : Nat → Nat → Int32) (v1 v2 v3 : Int32) : Option ((Int32)) :=
  bd1 (m_Gr_lengthOfRule s_grammar v1) fun r_1 =>
  if r_1 ≤ v3 then
    kx72 v2
  else
    bd1 (m_Gr_slotAt s_grammar v1 v3) fun r_4 =>
    if r_4 = (-1) then
      f_Sr_lengthBy_51 N kb kx59 kx72 s_self s_grammar v1 v2 v3 1
    else
      bd1 (m_Gr_sortOfSlot s_grammar v1 r_4) fun r_7 =>
      bd1 (m_Sr_lengthSoFar s_self r_7) fun r_9 =>
      f_Sr_lengthBy_51 N kb kx59 kx72 s_self s_grammar v1 v2 v3 r_9
set_option maxHeartbeats 4000000 in
set_option maxRecDepth 100000 in
theorem t_Sr_lengthBy_4 {p : Program} {l : Launch} {e : Env} {s : State} {m : MethodId} {args : Array Value} {below : List Frame} {meth : Method} {c : Code} {A : Nat → Prop} {D : va_G} {K : Nat → ClassId} (a_self a_grammar : Nat → Nat) (X : gx p s m args c b_Sr_lengthBy 6 R_Sr w_Sr_lengthBy D classes (tyK K) A) (hr : meth.sig.returnType = some .int) (hlk : meth.locks = false) (N : Nat) (r : Int32) (s_self s_grammar : Nat → Nat → Int32) (v1 v2 v3 : Int32) (kb : Int32 → Int32 → Option ((Int32))) (hkb : ∀ (v2 v3 : Int32), kb v2 v3 = some r → Gd p l e rm_Sr_lengthBy s m args below meth c 0 0 (MQ below (sq D classes (tyK K) (some (.int r)) [wd_Sr K a_self (a_grammar 0) s_self, wd_Gr K a_grammar s_grammar] A) args s 0 0 A) D classes A 6 4 [wd_Sr K a_self (a_grammar 0) s_self, wd_Gr K a_grammar s_grammar] [(0, .ref (a_self 0)), (1, .int v1), (2, .int v2), (3, .int v3)] []) (kx59 : Option ((Int32))) (hkx59 : kx59 = some r → Gd p l e rm_Sr_lengthBy s m args below meth c 0 0 (MQ below (sq D classes (tyK K) (some (.int r)) [wd_Sr K a_self (a_grammar 0) s_self, wd_Gr K a_grammar s_grammar] A) args s 0 0 A) D classes A 6 59 [wd_Sr K a_self (a_grammar 0) s_self, wd_Gr K a_grammar s_grammar] [] []) (kx72 : Int32 → Option ((Int32))) (hkx72 : ∀ (v2 : Int32), kx72 v2 = some r → Gd p l e rm_Sr_lengthBy s m args below meth c 0 0 (MQ below (sq D classes (tyK K) (some (.int r)) [wd_Sr K a_self (a_grammar 0) s_self, wd_Gr K a_grammar s_grammar] A) args s 0 0 A) D classes A 6 72 [wd_Sr K a_self (a_grammar 0) s_self, wd_Gr K a_grammar s_grammar] [(2, .int v2)] []) (h : f_Sr_lengthBy_4 N kb kx59 kx72 s_self s_grammar v1 v2 v3 = some r) : Gd p l e rm_Sr_lengthBy s m args below meth c 0 0 (MQ below (sq D classes (tyK K) (some (.int r)) [wd_Sr K a_self (a_grammar 0) s_self, wd_Gr K a_grammar s_grammar] A) args s 0 0 A) D classes A 6 4 [wd_Sr K a_self (a_grammar 0) s_self, wd_Gr K a_grammar s_grammar] [(0, .ref (a_self 0)), (1, .int v1), (2, .int v2), (3, .int v3)] [] := by
  unfold f_Sr_lengthBy_4 at h
  refine gd_iload_n X d_Sr_lengthBy_4 3 rfl ?_
  refine gd_aload_n X d_Sr_lengthBy_5 0 rfl ?_
  refine gd_get X (ci := 5) (C := R_Sr) (T := F_Sr) (N := 2) (v := .ref (a_grammar 0)) 0 0 rfl rfl rfl (in_Sr _) 0 (by decide) (List.mem_cons_of_mem _ fl_Sr_9) rfl rfl d_Sr_lengthBy_6 ?_
  refine gd_iload_n X d_Sr_lengthBy_9 1 rfl ?_
  obtain ⟨r_1, hc_2, h⟩ := bd1_e h
  refine gd_pI X (gd_V X (As := [.int v1]) (rest := [.int v3]) (c_Gr_lengthOfRule l D K a_grammar s_grammar v1 r_1 hc_2) 1 (gi_V ml_Sr_39 u_Gr_lengthOfRule) rfl ⟨rfl, rfl⟩ (by decide +kernel) ⟨by decide, by decide⟩ (ci := 1) rfl rfl rfl rfl rfl rfl (Nat.le_of_ble_eq_true rfl) ⟨Nat.zero_le _, Nat.zero_le _⟩ d_Sr_lengthBy_10) [1] rfl rfl ?_
  refine gd_icmp_ge X (tgt := 72) d_Sr_lengthBy_13 (by decide) (fun c_3 => ?_) (fun c_3 => ?_)
  · replace h := it_p c_3 h
    refine gd_loc (lv' := [(2, .int v2)]) [2] rfl ?_
    exact hkx72 v2 h
  · replace h := it_n c_3 h
    refine gd_aload_n X d_Sr_lengthBy_16 0 rfl ?_
    refine gd_get X (ci := 5) (C := R_Sr) (T := F_Sr) (N := 2) (v := .ref (a_grammar 0)) 0 0 rfl rfl rfl (in_Sr _) 0 (by decide) (List.mem_cons_of_mem _ fl_Sr_9) rfl rfl d_Sr_lengthBy_17 ?_
    refine gd_iload_n X d_Sr_lengthBy_20 1 rfl ?_
    refine gd_iload_n X d_Sr_lengthBy_21 3 rfl ?_
    obtain ⟨r_4, hc_5, h⟩ := bd1_e h
    refine gd_pI X (gd_V X (As := [.int v1, .int v3]) (rest := []) (c_Gr_slotAt l D K a_grammar s_grammar v1 v3 r_4 hc_5) 2 (gi_V ml_Sr_42 u_Gr_slotAt) rfl ⟨rfl, rfl⟩ (by decide +kernel) ⟨by decide, by decide⟩ (ci := 1) rfl rfl rfl rfl rfl rfl (Nat.le_of_ble_eq_true rfl) ⟨Nat.zero_le _, Nat.zero_le _⟩ d_Sr_lengthBy_22) [1] rfl rfl ?_
    refine gd_istore X (lv' := [(4, .int r_4), (0, .ref (a_self 0)), (1, .int v1), (2, .int v2), (3, .int v3)]) d_Sr_lengthBy_25 (by decide) rfl ?_
    refine gd_iload X d_Sr_lengthBy_27 0 rfl ?_
    refine gd_iconst X (v := (-1)) d_Sr_lengthBy_29 (by decide) ?_
    refine gd_icmp_ne X (tgt := 37) d_Sr_lengthBy_30 (by decide) (fun c_6 => ?_) (fun c_6 => ?_)
    · replace h := it_n c_6 h
      refine gd_aload_n X d_Sr_lengthBy_37 1 rfl ?_
      refine gd_aload_n X d_Sr_lengthBy_38 1 rfl ?_
      refine gd_get X (ci := 5) (C := R_Sr) (T := F_Sr) (N := 2) (v := .ref (a_grammar 0)) 0 0 rfl rfl rfl (in_Sr _) 0 (by decide) (List.mem_cons_of_mem _ fl_Sr_9) rfl rfl d_Sr_lengthBy_39 ?_
      refine gd_iload_n X d_Sr_lengthBy_42 2 rfl ?_
      refine gd_iload X d_Sr_lengthBy_43 0 rfl ?_
      obtain ⟨r_7, hc_8, h⟩ := bd1_e h
      refine gd_pI X (gd_V X (As := [.int v1, .int r_4]) (rest := [.ref (a_self 0)]) (c_Gr_sortOfSlot l D K a_grammar s_grammar v1 r_4 r_7 hc_8) 2 (gi_V ml_Sr_46 u_Gr_sortOfSlot) rfl ⟨rfl, rfl⟩ (by decide +kernel) ⟨by decide, by decide⟩ (ci := 1) rfl rfl rfl rfl rfl rfl (Nat.le_of_ble_eq_true rfl) ⟨Nat.zero_le _, Nat.zero_le _⟩ d_Sr_lengthBy_45) [1] rfl rfl ?_
      obtain ⟨r_9, hc_10, h⟩ := bd1_e h
      refine gd_pI X (gd_V X (As := [.int r_7]) (rest := []) (c_Sr_lengthSoFar l D K a_self a_grammar s_self r_7 r_9 hc_10) 1 (gi_V ml_Sr_36 u_Sr_lengthSoFar) rfl ⟨rfl, rfl⟩ (by decide +kernel) ⟨by decide, by decide⟩ (ci := 5) rfl rfl rfl rfl rfl rfl (Nat.le_of_ble_eq_true rfl) ⟨Nat.zero_le _, Nat.zero_le _⟩ d_Sr_lengthBy_48) [0] rfl rfl ?_
      refine gd_loc (lv' := [(0, .ref (a_self 0)), (1, .int v1), (2, .int v2), (3, .int v3)]) [1, 2, 3, 4] rfl ?_
      exact t_Sr_lengthBy_51 a_self a_grammar X hr hlk N r s_self s_grammar v1 v2 v3 r_9 kb hkb kx59 hkx59 kx72 hkx72 h
    · replace h := it_p c_6 h
      refine gd_iconst X (v := 1) d_Sr_lengthBy_33 (by decide) ?_
      refine gd_goto X (tgt := 51) d_Sr_lengthBy_34 (by decide) ?_
      refine gd_loc (lv' := [(0, .ref (a_self 0)), (1, .int v1), (2, .int v2), (3, .int v3)]) [1, 2, 3, 4] rfl ?_
      exact t_Sr_lengthBy_51 a_self a_grammar X hr hlk N r s_self s_grammar v1 v2 v3 1 kb hkb kx59 hkx59 kx72 hkx72 h
def f_Sr_lengthBy_59 (N : Nat) (s_self s_grammar : Nat → Nat → Int32) : Option ((Int32)) :=
  some ((-1))
set_option maxHeartbeats 4000000 in
set_option maxRecDepth 100000 in
theorem t_Sr_lengthBy_59 {p : Program} {l : Launch} {e : Env} {s : State} {m : MethodId} {args : Array Value} {below : List Frame} {meth : Method} {c : Code} {A : Nat → Prop} {D : va_G} {K : Nat → ClassId} (a_self a_grammar : Nat → Nat) (X : gx p s m args c b_Sr_lengthBy 6 R_Sr w_Sr_lengthBy D classes (tyK K) A) (hr : meth.sig.returnType = some .int) (hlk : meth.locks = false) (N : Nat) (r : Int32) (s_self s_grammar : Nat → Nat → Int32) (h : f_Sr_lengthBy_59 N s_self s_grammar = some r) : Gd p l e rm_Sr_lengthBy s m args below meth c 0 0 (MQ below (sq D classes (tyK K) (some (.int r)) [wd_Sr K a_self (a_grammar 0) s_self, wd_Gr K a_grammar s_grammar] A) args s 0 0 A) D classes A 6 59 [wd_Sr K a_self (a_grammar 0) s_self, wd_Gr K a_grammar s_grammar] [] [] := by
  unfold f_Sr_lengthBy_59 at h
  refine gd_iconst X (v := (-1)) d_Sr_lengthBy_59 (by decide) ?_
  cases h
  exact gd_iret X hr hlk d_Sr_lengthBy_60
def f_Sr_lengthBy_72 (N : Nat) (s_self s_grammar : Nat → Nat → Int32) (v2 : Int32) : Option ((Int32)) :=
  some (v2)
set_option maxHeartbeats 4000000 in
set_option maxRecDepth 100000 in
theorem t_Sr_lengthBy_72 {p : Program} {l : Launch} {e : Env} {s : State} {m : MethodId} {args : Array Value} {below : List Frame} {meth : Method} {c : Code} {A : Nat → Prop} {D : va_G} {K : Nat → ClassId} (a_self a_grammar : Nat → Nat) (X : gx p s m args c b_Sr_lengthBy 6 R_Sr w_Sr_lengthBy D classes (tyK K) A) (hr : meth.sig.returnType = some .int) (hlk : meth.locks = false) (N : Nat) (r : Int32) (s_self s_grammar : Nat → Nat → Int32) (v2 : Int32) (h : f_Sr_lengthBy_72 N s_self s_grammar v2 = some r) : Gd p l e rm_Sr_lengthBy s m args below meth c 0 0 (MQ below (sq D classes (tyK K) (some (.int r)) [wd_Sr K a_self (a_grammar 0) s_self, wd_Gr K a_grammar s_grammar] A) args s 0 0 A) D classes A 6 72 [wd_Sr K a_self (a_grammar 0) s_self, wd_Gr K a_grammar s_grammar] [(2, .int v2)] [] := by
  unfold f_Sr_lengthBy_72 at h
  refine gd_iload_n X d_Sr_lengthBy_72 0 rfl ?_
  cases h
  exact gd_iret X hr hlk d_Sr_lengthBy_73
def l_Sr_lengthBy_4 (N : Nat) (s_self s_grammar : Nat → Nat → Int32) (v1 : Int32) (kx59 : Option ((Int32))) (kx72 : Int32 → Option ((Int32))) : Nat → Int32 → Int32 → Option ((Int32))
  | 0, _, _ => none
  | n + 1, v2, v3 => f_Sr_lengthBy_4 N (l_Sr_lengthBy_4 N s_self s_grammar v1 kx59 kx72 n) kx59 kx72 s_self s_grammar v1 v2 v3
set_option maxHeartbeats 4000000 in
set_option maxRecDepth 100000 in
theorem tl_Sr_lengthBy_4 {p : Program} {l : Launch} {e : Env} {s : State} {m : MethodId} {args : Array Value} {below : List Frame} {meth : Method} {c : Code} {A : Nat → Prop} {D : va_G} {K : Nat → ClassId} (a_self a_grammar : Nat → Nat) (X : gx p s m args c b_Sr_lengthBy 6 R_Sr w_Sr_lengthBy D classes (tyK K) A) (hr : meth.sig.returnType = some .int) (hlk : meth.locks = false) (N : Nat) (r : Int32) (s_self s_grammar : Nat → Nat → Int32) (v1 : Int32) (kx59 : Option ((Int32))) (hkx59 : kx59 = some r → Gd p l e rm_Sr_lengthBy s m args below meth c 0 0 (MQ below (sq D classes (tyK K) (some (.int r)) [wd_Sr K a_self (a_grammar 0) s_self, wd_Gr K a_grammar s_grammar] A) args s 0 0 A) D classes A 6 59 [wd_Sr K a_self (a_grammar 0) s_self, wd_Gr K a_grammar s_grammar] [] []) (kx72 : Int32 → Option ((Int32))) (hkx72 : ∀ (v2 : Int32), kx72 v2 = some r → Gd p l e rm_Sr_lengthBy s m args below meth c 0 0 (MQ below (sq D classes (tyK K) (some (.int r)) [wd_Sr K a_self (a_grammar 0) s_self, wd_Gr K a_grammar s_grammar] A) args s 0 0 A) D classes A 6 72 [wd_Sr K a_self (a_grammar 0) s_self, wd_Gr K a_grammar s_grammar] [(2, .int v2)] []) : ∀ (n : Nat) (v2 v3 : Int32), l_Sr_lengthBy_4 N s_self s_grammar v1 kx59 kx72 n v2 v3 = some r → Gd p l e rm_Sr_lengthBy s m args below meth c 0 0 (MQ below (sq D classes (tyK K) (some (.int r)) [wd_Sr K a_self (a_grammar 0) s_self, wd_Gr K a_grammar s_grammar] A) args s 0 0 A) D classes A 6 4 [wd_Sr K a_self (a_grammar 0) s_self, wd_Gr K a_grammar s_grammar] [(0, .ref (a_self 0)), (1, .int v1), (2, .int v2), (3, .int v3)] [] := by
  intro n
  induction n with
  | zero => intro v2 v3 h; have h : (none : Option ((Int32))) = some _ := h; cases h
  | succ n ih =>
    intro v2 v3 h
    exact t_Sr_lengthBy_4 a_self a_grammar X hr hlk N r s_self s_grammar v1 v2 v3 (l_Sr_lengthBy_4 N s_self s_grammar v1 kx59 kx72 n) ih kx59 hkx59 kx72 hkx72 h
def f_Sr_lengthBy_0 (N : Nat) (s_self s_grammar : Nat → Nat → Int32) (v1 : Int32) : Option ((Int32)) :=
  l_Sr_lengthBy_4 N s_self s_grammar v1 (f_Sr_lengthBy_59 N s_self s_grammar) (fun v2 => f_Sr_lengthBy_72 N s_self s_grammar v2) N 0 0
set_option maxHeartbeats 4000000 in
set_option maxRecDepth 100000 in
theorem t_Sr_lengthBy_0 {p : Program} {l : Launch} {e : Env} {s : State} {m : MethodId} {args : Array Value} {below : List Frame} {meth : Method} {c : Code} {A : Nat → Prop} {D : va_G} {K : Nat → ClassId} (a_self a_grammar : Nat → Nat) (X : gx p s m args c b_Sr_lengthBy 6 R_Sr w_Sr_lengthBy D classes (tyK K) A) (hr : meth.sig.returnType = some .int) (hlk : meth.locks = false) (N : Nat) (r : Int32) (s_self s_grammar : Nat → Nat → Int32) (v1 : Int32) (h : f_Sr_lengthBy_0 N s_self s_grammar v1 = some r) : Gd p l e rm_Sr_lengthBy s m args below meth c 0 0 (MQ below (sq D classes (tyK K) (some (.int r)) [wd_Sr K a_self (a_grammar 0) s_self, wd_Gr K a_grammar s_grammar] A) args s 0 0 A) D classes A 6 0 [wd_Sr K a_self (a_grammar 0) s_self, wd_Gr K a_grammar s_grammar] [(0, .ref (a_self 0)), (1, .int v1)] [] := by
  unfold f_Sr_lengthBy_0 at h
  refine gd_iconst X (v := 0) d_Sr_lengthBy_0 (by decide) ?_
  refine gd_istore_n X (lv' := [(2, .int 0), (0, .ref (a_self 0)), (1, .int v1)]) d_Sr_lengthBy_1 rfl (by decide) rfl ?_
  refine gd_iconst X (v := 0) d_Sr_lengthBy_2 (by decide) ?_
  refine gd_istore_n X (lv' := [(3, .int 0), (2, .int 0), (0, .ref (a_self 0)), (1, .int v1)]) d_Sr_lengthBy_3 rfl (by decide) rfl ?_
  refine gd_loc (lv' := [(0, .ref (a_self 0)), (1, .int v1), (2, .int 0), (3, .int 0)]) [2, 3, 1, 0] rfl ?_
  exact tl_Sr_lengthBy_4 a_self a_grammar X hr hlk N r s_self s_grammar v1 (f_Sr_lengthBy_59 N s_self s_grammar) (fun h => t_Sr_lengthBy_59 a_self a_grammar X hr hlk N r s_self s_grammar h) (fun v2 => f_Sr_lengthBy_72 N s_self s_grammar v2) (fun v2 h => t_Sr_lengthBy_72 a_self a_grammar X hr hlk N r s_self s_grammar v2 h) N 0 0 h
def m_Sr_lengthBy (N : Nat) (s_self s_grammar : Nat → Nat → Int32) (v1 : Int32) : Option ((Int32)) := f_Sr_lengthBy_0 N s_self s_grammar v1
set_option maxHeartbeats 4000000 in
set_option maxRecDepth 100000 in
theorem c_Sr_lengthBy (l : Launch) (D : va_G) (K : Nat → ClassId) (a_self a_grammar : Nat → Nat) (N : Nat) (s_self s_grammar : Nat → Nat → Int32) (v1 : Int32) (r : Int32) (h : m_Sr_lengthBy N s_self s_grammar v1 = some r) : SMet l y_Sr_lengthBy w_Sr_lengthBy rm_Sr_lengthBy D classes (tyK K) [.ref (a_self 0), .int v1] (some (.int r)) [wd_Sr K a_self (a_grammar 0) s_self, wd_Gr K a_grammar s_grammar] [wd_Sr K a_self (a_grammar 0) s_self, wd_Gr K a_grammar s_grammar] := by
  refine sm_of R_Sr (by decide) rfl rfl (Nat.le_of_ble_eq_true rfl) ?_
  intro p e s m below meth c A X hr hlk
  refine gd_loc (lv' := [(0, .ref (a_self 0)), (1, .int v1)]) [0, 1] rfl ?_
  exact t_Sr_lengthBy_0 a_self a_grammar X hr hlk N r s_self s_grammar v1 h
abbrev b_Sr_shorten : ByteArray := prog_5_method_4_code
def y_Sr_shorten : MethodName := ⟨R_Sr, "shorten", "(II)V"⟩
def w_Sr_shorten : List Cond := .code y_Sr_shorten b_Sr_shorten 3 none :: TB
theorem k_Sr_shorten : Cond.code y_Sr_shorten b_Sr_shorten 3 none ∈ TB := tb_of 669 (by decide +kernel) (by decide +kernel)
theorem d_Sr_shorten_0 : decode b_Sr_shorten 0 = .ok (.iload_n 1, 1) := by decide +kernel
theorem d_Sr_shorten_1 : decode b_Sr_shorten 1 = .ok (.ifCond .lt 14, 3) := by decide +kernel
theorem d_Sr_shorten_4 : decode b_Sr_shorten 4 = .ok (.iload_n 1, 1) := by decide +kernel
theorem d_Sr_shorten_5 : decode b_Sr_shorten 5 = .ok (.bipush 6, 2) := by decide +kernel
theorem d_Sr_shorten_7 : decode b_Sr_shorten 7 = .ok (.if_icmp .ge 8, 3) := by decide +kernel
theorem d_Sr_shorten_10 : decode b_Sr_shorten 10 = .ok (.iload_n 2, 1) := by decide +kernel
theorem d_Sr_shorten_11 : decode b_Sr_shorten 11 = .ok (.iconst (-1), 1) := by decide +kernel
theorem d_Sr_shorten_12 : decode b_Sr_shorten 12 = .ok (.if_icmp .ne 4, 3) := by decide +kernel
theorem d_Sr_shorten_15 : decode b_Sr_shorten 15 = .ok (.return_, 1) := by decide +kernel
theorem d_Sr_shorten_16 : decode b_Sr_shorten 16 = .ok (.aload_n 0, 1) := by decide +kernel
theorem d_Sr_shorten_17 : decode b_Sr_shorten 17 = .ok (.getfield 15, 3) := by decide +kernel
theorem d_Sr_shorten_20 : decode b_Sr_shorten 20 = .ok (.iload_n 1, 1) := by decide +kernel
theorem d_Sr_shorten_21 : decode b_Sr_shorten 21 = .ok (.iaload, 1) := by decide +kernel
theorem d_Sr_shorten_22 : decode b_Sr_shorten 22 = .ok (.iconst (-1), 1) := by decide +kernel
theorem d_Sr_shorten_23 : decode b_Sr_shorten 23 = .ok (.if_icmp .eq 13, 3) := by decide +kernel
theorem d_Sr_shorten_26 : decode b_Sr_shorten 26 = .ok (.iload_n 2, 1) := by decide +kernel
theorem d_Sr_shorten_27 : decode b_Sr_shorten 27 = .ok (.aload_n 0, 1) := by decide +kernel
theorem d_Sr_shorten_28 : decode b_Sr_shorten 28 = .ok (.getfield 15, 3) := by decide +kernel
theorem d_Sr_shorten_31 : decode b_Sr_shorten 31 = .ok (.iload_n 1, 1) := by decide +kernel
theorem d_Sr_shorten_32 : decode b_Sr_shorten 32 = .ok (.iaload, 1) := by decide +kernel
theorem d_Sr_shorten_33 : decode b_Sr_shorten 33 = .ok (.if_icmp .ge 10, 3) := by decide +kernel
theorem d_Sr_shorten_36 : decode b_Sr_shorten 36 = .ok (.aload_n 0, 1) := by decide +kernel
theorem d_Sr_shorten_37 : decode b_Sr_shorten 37 = .ok (.getfield 15, 3) := by decide +kernel
theorem d_Sr_shorten_40 : decode b_Sr_shorten 40 = .ok (.iload_n 1, 1) := by decide +kernel
theorem d_Sr_shorten_41 : decode b_Sr_shorten 41 = .ok (.iload_n 2, 1) := by decide +kernel
theorem d_Sr_shorten_42 : decode b_Sr_shorten 42 = .ok (.iastore, 1) := by decide +kernel
theorem d_Sr_shorten_43 : decode b_Sr_shorten 43 = .ok (.return_, 1) := by decide +kernel
abbrev rm_Sr_shorten : Room := { frames := 0, cells := 0, slots := 0, locals := 0 }
def f_Sr_shorten_0 (s_self : Nat → Nat → Int32) (v1 v2 : Int32) : Option ((Nat → Nat → Int32)) :=
  if v1 < 0 then
    some s_self
  else
    if 6 ≤ v1 then
      some s_self
    else
      if v2 = (-1) then
        some s_self
      else
        ck v1 6 <|
        if (s_self 1 (Int32.toNatClampNeg v1)) = (-1) then
          ck v1 6 <| nm (st2 s_self 1 (Int32.toNatClampNeg v1) v2) fun s_self_7 =>
          some s_self_7
        else
          ck v1 6 <|
          if (s_self 1 (Int32.toNatClampNeg v1)) ≤ v2 then
            some s_self
          else
            ck v1 6 <| nm (st2 s_self 1 (Int32.toNatClampNeg v1) v2) fun s_self_11 =>
            some s_self_11
set_option maxHeartbeats 4000000 in
set_option maxRecDepth 100000 in
theorem t_Sr_shorten_0 {p : Program} {l : Launch} {e : Env} {s : State} {m : MethodId} {args : Array Value} {below : List Frame} {meth : Method} {c : Code} {A : Nat → Prop} {D : va_G} {K : Nat → ClassId} (a_self a_grammar : Nat → Nat) (X : gx p s m args c b_Sr_shorten 3 R_Sr w_Sr_shorten D classes (tyK K) A) (hr : meth.sig.returnType = none) (hlk : meth.locks = false) (f_self : Nat → Nat → Int32) (s_self : Nat → Nat → Int32) (v1 v2 : Int32) (h : f_Sr_shorten_0 s_self v1 v2 = some f_self) : Gd p l e rm_Sr_shorten s m args below meth c 0 0 (MQ below (sq D classes (tyK K) none [wd_Sr K a_self (a_grammar 0) f_self] A) args s 0 0 A) D classes A 3 0 [wd_Sr K a_self (a_grammar 0) s_self] [(0, .ref (a_self 0)), (1, .int v1), (2, .int v2)] [] := by
  unfold f_Sr_shorten_0 at h
  refine gd_iload_n X d_Sr_shorten_0 1 rfl ?_
  refine gd_if_lt X (tgt := 15) d_Sr_shorten_1 (by decide) (fun c_1 => ?_) (fun c_1 => ?_)
  · replace h := it_p c_1 h
    cases h
    exact gd_vret X hr hlk d_Sr_shorten_15
  · replace h := it_n c_1 h
    refine gd_iload_n X d_Sr_shorten_4 1 rfl ?_
    refine gd_bipush X (v := 6) d_Sr_shorten_5 (by decide) ?_
    refine gd_icmp_ge X (tgt := 15) d_Sr_shorten_7 (by decide) (fun c_2 => ?_) (fun c_2 => ?_)
    · replace h := it_p c_2 h
      cases h
      exact gd_vret X hr hlk d_Sr_shorten_15
    · replace h := it_n c_2 h
      refine gd_iload_n X d_Sr_shorten_10 2 rfl ?_
      refine gd_iconst X (v := (-1)) d_Sr_shorten_11 (by decide) ?_
      refine gd_icmp_ne X (tgt := 16) d_Sr_shorten_12 (by decide) (fun c_3 => ?_) (fun c_3 => ?_)
      · replace h := it_n c_3 h
        refine gd_aload_n X d_Sr_shorten_16 0 rfl ?_
        refine gd_get X (ci := 5) (C := R_Sr) (T := F_Sr) (N := 2) (v := .ref (a_self 1)) 0 0 rfl rfl rfl (in_Sr _) 1 (by decide) (List.mem_cons_of_mem _ fl_Sr_15) rfl rfl d_Sr_shorten_17 ?_
        refine gd_iload_n X d_Sr_shorten_20 1 rfl ?_
        obtain ⟨hi_4, h⟩ := ck_e h
        refine gd_iald X 0 1 0 rfl rfl rfl hi_4 d_Sr_shorten_21 ?_
        refine gd_iconst X (v := (-1)) d_Sr_shorten_22 (by decide) ?_
        refine gd_icmp_eq X (tgt := 36) d_Sr_shorten_23 (by decide) (fun c_5 => ?_) (fun c_5 => ?_)
        · replace h := it_p c_5 h
          refine gd_aload_n X d_Sr_shorten_36 0 rfl ?_
          refine gd_get X (ci := 5) (C := R_Sr) (T := F_Sr) (N := 2) (v := .ref (a_self 1)) 0 0 rfl rfl rfl (in_Sr _) 1 (by decide) (List.mem_cons_of_mem _ fl_Sr_15) rfl rfl d_Sr_shorten_37 ?_
          refine gd_iload_n X d_Sr_shorten_40 1 rfl ?_
          refine gd_iload_n X d_Sr_shorten_41 2 rfl ?_
          obtain ⟨hi_6, h⟩ := ck_e h
          obtain ⟨s_self_7, es_self_7, h⟩ := nm_e' h
          refine gd_iast X (w' := [wd_Sr K a_self (a_grammar 0) s_self_7]) 0 1 0 rfl rfl rfl hi_6 d_Sr_shorten_42 (by rw [es_self_7]; rfl) ?_
          cases h
          exact gd_vret X hr hlk d_Sr_shorten_43
        · replace h := it_n c_5 h
          refine gd_iload_n X d_Sr_shorten_26 2 rfl ?_
          refine gd_aload_n X d_Sr_shorten_27 0 rfl ?_
          refine gd_get X (ci := 5) (C := R_Sr) (T := F_Sr) (N := 2) (v := .ref (a_self 1)) 0 0 rfl rfl rfl (in_Sr _) 1 (by decide) (List.mem_cons_of_mem _ fl_Sr_15) rfl rfl d_Sr_shorten_28 ?_
          refine gd_iload_n X d_Sr_shorten_31 1 rfl ?_
          obtain ⟨hi_8, h⟩ := ck_e h
          refine gd_iald X 0 1 0 rfl rfl rfl hi_8 d_Sr_shorten_32 ?_
          refine gd_icmp_ge X (tgt := 43) d_Sr_shorten_33 (by decide) (fun c_9 => ?_) (fun c_9 => ?_)
          · replace h := it_p c_9 h
            cases h
            exact gd_vret X hr hlk d_Sr_shorten_43
          · replace h := it_n c_9 h
            refine gd_aload_n X d_Sr_shorten_36 0 rfl ?_
            refine gd_get X (ci := 5) (C := R_Sr) (T := F_Sr) (N := 2) (v := .ref (a_self 1)) 0 0 rfl rfl rfl (in_Sr _) 1 (by decide) (List.mem_cons_of_mem _ fl_Sr_15) rfl rfl d_Sr_shorten_37 ?_
            refine gd_iload_n X d_Sr_shorten_40 1 rfl ?_
            refine gd_iload_n X d_Sr_shorten_41 2 rfl ?_
            obtain ⟨hi_10, h⟩ := ck_e h
            obtain ⟨s_self_11, es_self_11, h⟩ := nm_e' h
            refine gd_iast X (w' := [wd_Sr K a_self (a_grammar 0) s_self_11]) 0 1 0 rfl rfl rfl hi_10 d_Sr_shorten_42 (by rw [es_self_11]; rfl) ?_
            cases h
            exact gd_vret X hr hlk d_Sr_shorten_43
      · replace h := it_p c_3 h
        cases h
        exact gd_vret X hr hlk d_Sr_shorten_15
def m_Sr_shorten (s_self : Nat → Nat → Int32) (v1 v2 : Int32) : Option ((Nat → Nat → Int32)) := f_Sr_shorten_0 s_self v1 v2
set_option maxHeartbeats 4000000 in
set_option maxRecDepth 100000 in
theorem c_Sr_shorten (l : Launch) (D : va_G) (K : Nat → ClassId) (a_self a_grammar : Nat → Nat) (s_self : Nat → Nat → Int32) (v1 v2 : Int32) (f_self : Nat → Nat → Int32) (h : m_Sr_shorten s_self v1 v2 = some f_self) : SMet l y_Sr_shorten w_Sr_shorten rm_Sr_shorten D classes (tyK K) [.ref (a_self 0), .int v1, .int v2] none [wd_Sr K a_self (a_grammar 0) s_self] [wd_Sr K a_self (a_grammar 0) f_self] := by
  refine sm_of R_Sr (by decide) rfl rfl (Nat.le_of_ble_eq_true rfl) ?_
  intro p e s m below meth c A X hr hlk
  refine gd_loc (lv' := [(0, .ref (a_self 0)), (1, .int v1), (2, .int v2)]) [0, 1, 2] rfl ?_
  exact t_Sr_shorten_0 a_self a_grammar X hr hlk f_self s_self v1 v2 h
abbrev b_Sr_lengthFor : ByteArray := prog_5_method_2_code
def y_Sr_lengthFor : MethodName := ⟨R_Sr, "lengthFor", "(I)I"⟩
def w_Sr_lengthFor : List Cond := .code y_Sr_lengthFor b_Sr_lengthFor 4 (some .int) :: TB
theorem k_Sr_lengthFor : Cond.code y_Sr_lengthFor b_Sr_lengthFor 4 (some .int) ∈ TB := tb_of 653 (by decide +kernel) (by decide +kernel)
theorem d_Sr_lengthFor_0 : decode b_Sr_lengthFor 0 = .ok (.iconst 0, 1) := by decide +kernel
theorem d_Sr_lengthFor_1 : decode b_Sr_lengthFor 1 = .ok (.istore_n 2, 1) := by decide +kernel
theorem d_Sr_lengthFor_2 : decode b_Sr_lengthFor 2 = .ok (.iload_n 2, 1) := by decide +kernel
theorem d_Sr_lengthFor_3 : decode b_Sr_lengthFor 3 = .ok (.bipush 6, 2) := by decide +kernel
theorem d_Sr_lengthFor_5 : decode b_Sr_lengthFor 5 = .ok (.if_icmp .ge 16, 3) := by decide +kernel
theorem d_Sr_lengthFor_8 : decode b_Sr_lengthFor 8 = .ok (.aload_n 0, 1) := by decide +kernel
theorem d_Sr_lengthFor_9 : decode b_Sr_lengthFor 9 = .ok (.getfield 15, 3) := by decide +kernel
theorem d_Sr_lengthFor_12 : decode b_Sr_lengthFor 12 = .ok (.iload_n 2, 1) := by decide +kernel
theorem d_Sr_lengthFor_13 : decode b_Sr_lengthFor 13 = .ok (.iconst (-1), 1) := by decide +kernel
theorem d_Sr_lengthFor_14 : decode b_Sr_lengthFor 14 = .ok (.iastore, 1) := by decide +kernel
theorem d_Sr_lengthFor_15 : decode b_Sr_lengthFor 15 = .ok (.iinc 2 1, 3) := by decide +kernel
theorem d_Sr_lengthFor_18 : decode b_Sr_lengthFor 18 = .ok (.goto (-16), 3) := by decide +kernel
theorem d_Sr_lengthFor_21 : decode b_Sr_lengthFor 21 = .ok (.iconst 0, 1) := by decide +kernel
theorem d_Sr_lengthFor_22 : decode b_Sr_lengthFor 22 = .ok (.istore_n 2, 1) := by decide +kernel
theorem d_Sr_lengthFor_23 : decode b_Sr_lengthFor 23 = .ok (.iload_n 2, 1) := by decide +kernel
theorem d_Sr_lengthFor_24 : decode b_Sr_lengthFor 24 = .ok (.bipush 6, 2) := by decide +kernel
theorem d_Sr_lengthFor_26 : decode b_Sr_lengthFor 26 = .ok (.if_icmp .ge 45, 3) := by decide +kernel
theorem d_Sr_lengthFor_29 : decode b_Sr_lengthFor 29 = .ok (.iconst 0, 1) := by decide +kernel
theorem d_Sr_lengthFor_30 : decode b_Sr_lengthFor 30 = .ok (.istore_n 3, 1) := by decide +kernel
theorem d_Sr_lengthFor_31 : decode b_Sr_lengthFor 31 = .ok (.iload_n 3, 1) := by decide +kernel
theorem d_Sr_lengthFor_32 : decode b_Sr_lengthFor 32 = .ok (.aload_n 0, 1) := by decide +kernel
theorem d_Sr_lengthFor_33 : decode b_Sr_lengthFor 33 = .ok (.getfield 9, 3) := by decide +kernel
theorem d_Sr_lengthFor_36 : decode b_Sr_lengthFor 36 = .ok (.getfield 19, 3) := by decide +kernel
theorem d_Sr_lengthFor_39 : decode b_Sr_lengthFor 39 = .ok (.if_icmp .ge 26, 3) := by decide +kernel
theorem d_Sr_lengthFor_42 : decode b_Sr_lengthFor 42 = .ok (.aload_n 0, 1) := by decide +kernel
theorem d_Sr_lengthFor_43 : decode b_Sr_lengthFor 43 = .ok (.aload_n 0, 1) := by decide +kernel
theorem d_Sr_lengthFor_44 : decode b_Sr_lengthFor 44 = .ok (.getfield 9, 3) := by decide +kernel
theorem d_Sr_lengthFor_47 : decode b_Sr_lengthFor 47 = .ok (.iload_n 3, 1) := by decide +kernel
theorem d_Sr_lengthFor_48 : decode b_Sr_lengthFor 48 = .ok (.invokevirtual 25, 3) := by decide +kernel
theorem d_Sr_lengthFor_51 : decode b_Sr_lengthFor 51 = .ok (.aload_n 0, 1) := by decide +kernel
theorem d_Sr_lengthFor_52 : decode b_Sr_lengthFor 52 = .ok (.iload_n 3, 1) := by decide +kernel
theorem d_Sr_lengthFor_53 : decode b_Sr_lengthFor 53 = .ok (.invokevirtual 29, 3) := by decide +kernel
theorem d_Sr_lengthFor_56 : decode b_Sr_lengthFor 56 = .ok (.invokevirtual 32, 3) := by decide +kernel
theorem d_Sr_lengthFor_59 : decode b_Sr_lengthFor 59 = .ok (.iinc 3 1, 3) := by decide +kernel
theorem d_Sr_lengthFor_62 : decode b_Sr_lengthFor 62 = .ok (.goto (-31), 3) := by decide +kernel
theorem d_Sr_lengthFor_65 : decode b_Sr_lengthFor 65 = .ok (.iinc 2 1, 3) := by decide +kernel
theorem d_Sr_lengthFor_68 : decode b_Sr_lengthFor 68 = .ok (.goto (-45), 3) := by decide +kernel
theorem d_Sr_lengthFor_71 : decode b_Sr_lengthFor 71 = .ok (.aload_n 0, 1) := by decide +kernel
theorem d_Sr_lengthFor_72 : decode b_Sr_lengthFor 72 = .ok (.iload_n 1, 1) := by decide +kernel
theorem d_Sr_lengthFor_73 : decode b_Sr_lengthFor 73 = .ok (.invokevirtual 36, 3) := by decide +kernel
theorem d_Sr_lengthFor_76 : decode b_Sr_lengthFor 76 = .ok (.ireturn, 1) := by decide +kernel
theorem fl_Sr_19 : Cond.fieldLink R_Sr 19 "RuleTrees$Grammar" "rules" "I" ∈ TB := tb_of 90 (by decide +kernel) (by decide +kernel)
theorem ml_Sr_25 : Cond.methodLink R_Sr 25 ⟨"RuleTrees$Grammar", "sortOfCode", "(I)I"⟩ ∈ TB := tb_of 654 (by decide +kernel) (by decide +kernel)
theorem ml_Sr_29 : Cond.methodLink R_Sr 29 ⟨"RuleTrees$ShortestRows", "lengthBy", "(I)I"⟩ ∈ TB := tb_of 655 (by decide +kernel) (by decide +kernel)
theorem u_Sr_lengthBy : (Cond.instanceMethod y_Sr_lengthBy ∈ TB ∧ Cond.selects R_Sr y_Sr_lengthBy y_Sr_lengthBy ∈ TB) ∧ Cond.initialized R_Sr ∈ TB ∧ Cond.code y_Sr_lengthBy b_Sr_lengthBy 6 (some .int) ∈ TB := ⟨⟨(tb_of 657 (by decide +kernel) (by decide +kernel)), (tb_of 29 (by decide +kernel) (by decide +kernel))⟩, (tb_of 69 (by decide +kernel) (by decide +kernel)), k_Sr_lengthBy⟩
theorem ml_Sr_32 : Cond.methodLink R_Sr 32 ⟨"RuleTrees$ShortestRows", "shorten", "(II)V"⟩ ∈ TB := tb_of 666 (by decide +kernel) (by decide +kernel)
theorem u_Sr_shorten : (Cond.instanceMethod y_Sr_shorten ∈ TB ∧ Cond.selects R_Sr y_Sr_shorten y_Sr_shorten ∈ TB) ∧ Cond.initialized R_Sr ∈ TB ∧ Cond.code y_Sr_shorten b_Sr_shorten 3 none ∈ TB := ⟨⟨(tb_of 668 (by decide +kernel) (by decide +kernel)), (tb_of 31 (by decide +kernel) (by decide +kernel))⟩, (tb_of 69 (by decide +kernel) (by decide +kernel)), k_Sr_shorten⟩
abbrev rm_Sr_lengthFor : Room := { frames := 3, cells := 0, slots := 0, locals := 68 }
def f_Sr_lengthFor_2 (N : Nat) (kb : (Nat → Nat → Int32) → Int32 → Option ((Int32) × (Nat → Nat → Int32))) (kx21 : (Nat → Nat → Int32) → Option ((Int32) × (Nat → Nat → Int32))) (s_self s_grammar : Nat → Nat → Int32) (v1 v2 : Int32) : Option ((Int32) × (Nat → Nat → Int32)) :=
  if 6 ≤ v2 then
    kx21 s_self
  else
    ck v2 6 <| nm (st2 s_self 1 (Int32.toNatClampNeg v2) (-1)) fun s_self_3 =>
    nm (v2 + 1) fun v2_4 =>
    kb s_self_3 v2_4
set_option maxHeartbeats 4000000 in
set_option maxRecDepth 100000 in
theorem t_Sr_lengthFor_2 {p : Program} {l : Launch} {e : Env} {s : State} {m : MethodId} {args : Array Value} {below : List Frame} {meth : Method} {c : Code} {A : Nat → Prop} {D : va_G} {K : Nat → ClassId} (a_self a_grammar : Nat → Nat) (X : gx p s m args c b_Sr_lengthFor 4 R_Sr w_Sr_lengthFor D classes (tyK K) A) (hr : meth.sig.returnType = some .int) (hlk : meth.locks = false) (N : Nat) (r : Int32) (f_self : Nat → Nat → Int32) (s_self s_grammar : Nat → Nat → Int32) (v1 v2 : Int32) (kb : (Nat → Nat → Int32) → Int32 → Option ((Int32) × (Nat → Nat → Int32))) (hkb : ∀ (s_self : Nat → Nat → Int32) (v2 : Int32), kb s_self v2 = some (r, f_self) → Gd p l e rm_Sr_lengthFor s m args below meth c 0 0 (MQ below (sq D classes (tyK K) (some (.int r)) [wd_Sr K a_self (a_grammar 0) f_self, wd_Gr K a_grammar s_grammar] A) args s 0 0 A) D classes A 4 2 [wd_Sr K a_self (a_grammar 0) s_self, wd_Gr K a_grammar s_grammar] [(0, .ref (a_self 0)), (1, .int v1), (2, .int v2)] []) (kx21 : (Nat → Nat → Int32) → Option ((Int32) × (Nat → Nat → Int32))) (hkx21 : ∀ (s_self : Nat → Nat → Int32), kx21 s_self = some (r, f_self) → Gd p l e rm_Sr_lengthFor s m args below meth c 0 0 (MQ below (sq D classes (tyK K) (some (.int r)) [wd_Sr K a_self (a_grammar 0) f_self, wd_Gr K a_grammar s_grammar] A) args s 0 0 A) D classes A 4 21 [wd_Sr K a_self (a_grammar 0) s_self, wd_Gr K a_grammar s_grammar] [(0, .ref (a_self 0)), (1, .int v1)] []) (h : f_Sr_lengthFor_2 N kb kx21 s_self s_grammar v1 v2 = some (r, f_self)) : Gd p l e rm_Sr_lengthFor s m args below meth c 0 0 (MQ below (sq D classes (tyK K) (some (.int r)) [wd_Sr K a_self (a_grammar 0) f_self, wd_Gr K a_grammar s_grammar] A) args s 0 0 A) D classes A 4 2 [wd_Sr K a_self (a_grammar 0) s_self, wd_Gr K a_grammar s_grammar] [(0, .ref (a_self 0)), (1, .int v1), (2, .int v2)] [] := by
  unfold f_Sr_lengthFor_2 at h
  refine gd_iload_n X d_Sr_lengthFor_2 2 rfl ?_
  refine gd_bipush X (v := 6) d_Sr_lengthFor_3 (by decide) ?_
  refine gd_icmp_ge X (tgt := 21) d_Sr_lengthFor_5 (by decide) (fun c_1 => ?_) (fun c_1 => ?_)
  · replace h := it_p c_1 h
    refine gd_loc (lv' := [(0, .ref (a_self 0)), (1, .int v1)]) [0, 1] rfl ?_
    exact hkx21 s_self h
  · replace h := it_n c_1 h
    refine gd_aload_n X d_Sr_lengthFor_8 0 rfl ?_
    refine gd_get X (ci := 5) (C := R_Sr) (T := F_Sr) (N := 2) (v := .ref (a_self 1)) 0 0 rfl rfl rfl (in_Sr _) 1 (by decide) (List.mem_cons_of_mem _ fl_Sr_15) rfl rfl d_Sr_lengthFor_9 ?_
    refine gd_iload_n X d_Sr_lengthFor_12 2 rfl ?_
    refine gd_iconst X (v := (-1)) d_Sr_lengthFor_13 (by decide) ?_
    obtain ⟨hi_2, h⟩ := ck_e h
    obtain ⟨s_self_3, es_self_3, h⟩ := nm_e' h
    refine gd_iast X (w' := [wd_Sr K a_self (a_grammar 0) s_self_3, wd_Gr K a_grammar s_grammar]) 0 1 0 rfl rfl rfl hi_2 d_Sr_lengthFor_14 (by rw [es_self_3]; rfl) ?_
    obtain ⟨v2_4, ev2_4, h⟩ := nm_e' h
    refine gd_iinc X (v := v2_4) (lv' := [(2, .int v2_4), (0, .ref (a_self 0)), (1, .int v1)]) d_Sr_lengthFor_15 (k := 2) rfl (by rw [ev2_4]; rfl) (by decide) rfl ?_
    refine gd_goto X (tgt := 2) d_Sr_lengthFor_18 (by decide) ?_
    refine gd_loc (lv' := [(0, .ref (a_self 0)), (1, .int v1), (2, .int v2_4)]) [1, 2, 0] rfl ?_
    exact hkb s_self_3 v2_4 h
def f_Sr_lengthFor_31 (N : Nat) (kb : (Nat → Nat → Int32) → Int32 → Option ((Int32) × (Nat → Nat → Int32))) (kx65 : (Nat → Nat → Int32) → Option ((Int32) × (Nat → Nat → Int32))) (s_self s_grammar : Nat → Nat → Int32) (v1 v2 v3 : Int32) : Option ((Int32) × (Nat → Nat → Int32)) :=
  if (s_grammar 0 2) ≤ v3 then
    kx65 s_self
  else
    bd1 (m_Gr_sortOfCode s_grammar v3) fun r_2 =>
    bd1 (m_Sr_lengthBy N s_self s_grammar v3) fun r_4 =>
    bd1 (m_Sr_shorten s_self r_2 r_4) fun s_self_6 =>
    nm (v3 + 1) fun v3_8 =>
    kb s_self_6 v3_8
set_option maxHeartbeats 4000000 in
set_option maxRecDepth 100000 in
theorem t_Sr_lengthFor_31 {p : Program} {l : Launch} {e : Env} {s : State} {m : MethodId} {args : Array Value} {below : List Frame} {meth : Method} {c : Code} {A : Nat → Prop} {D : va_G} {K : Nat → ClassId} (a_self a_grammar : Nat → Nat) (X : gx p s m args c b_Sr_lengthFor 4 R_Sr w_Sr_lengthFor D classes (tyK K) A) (hr : meth.sig.returnType = some .int) (hlk : meth.locks = false) (N : Nat) (r : Int32) (f_self : Nat → Nat → Int32) (s_self s_grammar : Nat → Nat → Int32) (v1 v2 v3 : Int32) (kb : (Nat → Nat → Int32) → Int32 → Option ((Int32) × (Nat → Nat → Int32))) (hkb : ∀ (s_self : Nat → Nat → Int32) (v3 : Int32), kb s_self v3 = some (r, f_self) → Gd p l e rm_Sr_lengthFor s m args below meth c 0 0 (MQ below (sq D classes (tyK K) (some (.int r)) [wd_Sr K a_self (a_grammar 0) f_self, wd_Gr K a_grammar s_grammar] A) args s 0 0 A) D classes A 4 31 [wd_Sr K a_self (a_grammar 0) s_self, wd_Gr K a_grammar s_grammar] [(0, .ref (a_self 0)), (1, .int v1), (2, .int v2), (3, .int v3)] []) (kx65 : (Nat → Nat → Int32) → Option ((Int32) × (Nat → Nat → Int32))) (hkx65 : ∀ (s_self : Nat → Nat → Int32), kx65 s_self = some (r, f_self) → Gd p l e rm_Sr_lengthFor s m args below meth c 0 0 (MQ below (sq D classes (tyK K) (some (.int r)) [wd_Sr K a_self (a_grammar 0) f_self, wd_Gr K a_grammar s_grammar] A) args s 0 0 A) D classes A 4 65 [wd_Sr K a_self (a_grammar 0) s_self, wd_Gr K a_grammar s_grammar] [(0, .ref (a_self 0)), (1, .int v1), (2, .int v2)] []) (h : f_Sr_lengthFor_31 N kb kx65 s_self s_grammar v1 v2 v3 = some (r, f_self)) : Gd p l e rm_Sr_lengthFor s m args below meth c 0 0 (MQ below (sq D classes (tyK K) (some (.int r)) [wd_Sr K a_self (a_grammar 0) f_self, wd_Gr K a_grammar s_grammar] A) args s 0 0 A) D classes A 4 31 [wd_Sr K a_self (a_grammar 0) s_self, wd_Gr K a_grammar s_grammar] [(0, .ref (a_self 0)), (1, .int v1), (2, .int v2), (3, .int v3)] [] := by
  unfold f_Sr_lengthFor_31 at h
  refine gd_iload_n X d_Sr_lengthFor_31 3 rfl ?_
  refine gd_aload_n X d_Sr_lengthFor_32 0 rfl ?_
  refine gd_get X (ci := 5) (C := R_Sr) (T := F_Sr) (N := 2) (v := .ref (a_grammar 0)) 0 0 rfl rfl rfl (in_Sr _) 0 (by decide) (List.mem_cons_of_mem _ fl_Sr_9) rfl rfl d_Sr_lengthFor_33 ?_
  refine gd_get X (ci := 1) (C := R_Gr) (T := F_Gr) (N := 12) (v := .int (s_grammar 0 2)) 1 0 rfl rfl rfl (in_Gr _) 2 (by decide) (List.mem_cons_of_mem _ fl_Sr_19) rfl rfl d_Sr_lengthFor_36 ?_
  refine gd_icmp_ge X (tgt := 65) d_Sr_lengthFor_39 (by decide) (fun c_1 => ?_) (fun c_1 => ?_)
  · replace h := it_p c_1 h
    refine gd_loc (lv' := [(0, .ref (a_self 0)), (1, .int v1), (2, .int v2)]) [0, 1, 2] rfl ?_
    exact hkx65 s_self h
  · replace h := it_n c_1 h
    refine gd_aload_n X d_Sr_lengthFor_42 0 rfl ?_
    refine gd_aload_n X d_Sr_lengthFor_43 0 rfl ?_
    refine gd_get X (ci := 5) (C := R_Sr) (T := F_Sr) (N := 2) (v := .ref (a_grammar 0)) 0 0 rfl rfl rfl (in_Sr _) 0 (by decide) (List.mem_cons_of_mem _ fl_Sr_9) rfl rfl d_Sr_lengthFor_44 ?_
    refine gd_iload_n X d_Sr_lengthFor_47 3 rfl ?_
    obtain ⟨r_2, hc_3, h⟩ := bd1_e h
    refine gd_pI X (gd_V X (As := [.int v3]) (rest := [.ref (a_self 0)]) (c_Gr_sortOfCode l D K a_grammar s_grammar v3 r_2 hc_3) 1 (gi_V ml_Sr_25 u_Gr_sortOfCode) rfl ⟨rfl, rfl⟩ (by decide +kernel) ⟨by decide, by decide⟩ (ci := 1) rfl rfl rfl rfl rfl rfl (Nat.le_of_ble_eq_true rfl) ⟨Nat.zero_le _, Nat.zero_le _⟩ d_Sr_lengthFor_48) [1] rfl rfl ?_
    refine gd_aload_n X d_Sr_lengthFor_51 0 rfl ?_
    refine gd_iload_n X d_Sr_lengthFor_52 3 rfl ?_
    obtain ⟨r_4, hc_5, h⟩ := bd1_e h
    refine gd_fI X (gd_V X (As := [.int v3]) (rest := [.int r_2, .ref (a_self 0)]) (c_Sr_lengthBy l D K a_self a_grammar N s_self s_grammar v3 r_4 hc_5) 1 (gi_V ml_Sr_29 u_Sr_lengthBy) rfl ⟨rfl, rfl⟩ (by decide +kernel) ⟨by decide, by decide⟩ (ci := 5) rfl rfl rfl rfl rfl rfl (Nat.le_of_ble_eq_true rfl) ⟨Nat.zero_le _, Nat.zero_le _⟩ d_Sr_lengthFor_53) ?_
    obtain ⟨s_self_6, hc_7, h⟩ := bd1_e h
    refine gd_cv X (gd_V X (As := [.int r_2, .int r_4]) (rest := []) (c_Sr_shorten l D K a_self a_grammar s_self r_2 r_4 s_self_6 hc_7) 2 (gi_V ml_Sr_32 u_Sr_shorten) rfl ⟨rfl, rfl⟩ (by decide +kernel) ⟨by decide, by decide⟩ (ci := 5) rfl rfl rfl rfl rfl rfl (Nat.le_of_ble_eq_true rfl) ⟨Nat.zero_le _, Nat.zero_le _⟩ d_Sr_lengthFor_56) (w2 := [wd_Sr K a_self (a_grammar 0) s_self_6, wd_Gr K a_grammar s_grammar]) [0] [1] rfl rfl rfl rfl ⟨rfl, rfl⟩ rfl ?_
    obtain ⟨v3_8, ev3_8, h⟩ := nm_e' h
    refine gd_iinc X (v := v3_8) (lv' := [(3, .int v3_8), (0, .ref (a_self 0)), (1, .int v1), (2, .int v2)]) d_Sr_lengthFor_59 (k := 3) rfl (by rw [ev3_8]; rfl) (by decide) rfl ?_
    refine gd_goto X (tgt := 31) d_Sr_lengthFor_62 (by decide) ?_
    refine gd_loc (lv' := [(0, .ref (a_self 0)), (1, .int v1), (2, .int v2), (3, .int v3_8)]) [1, 2, 3, 0] rfl ?_
    exact hkb s_self_6 v3_8 h
def f_Sr_lengthFor_65 (N : Nat) (kb : (Nat → Nat → Int32) → Int32 → Option ((Int32) × (Nat → Nat → Int32))) (kx71 : (Nat → Nat → Int32) → Option ((Int32) × (Nat → Nat → Int32))) (s_self s_grammar : Nat → Nat → Int32) (v1 v2 : Int32) : Option ((Int32) × (Nat → Nat → Int32)) :=
  nm (v2 + 1) fun v2_1 =>
  kb s_self v2_1
set_option maxHeartbeats 4000000 in
set_option maxRecDepth 100000 in
theorem t_Sr_lengthFor_65 {p : Program} {l : Launch} {e : Env} {s : State} {m : MethodId} {args : Array Value} {below : List Frame} {meth : Method} {c : Code} {A : Nat → Prop} {D : va_G} {K : Nat → ClassId} (a_self a_grammar : Nat → Nat) (X : gx p s m args c b_Sr_lengthFor 4 R_Sr w_Sr_lengthFor D classes (tyK K) A) (hr : meth.sig.returnType = some .int) (hlk : meth.locks = false) (N : Nat) (r : Int32) (f_self : Nat → Nat → Int32) (s_self s_grammar : Nat → Nat → Int32) (v1 v2 : Int32) (kb : (Nat → Nat → Int32) → Int32 → Option ((Int32) × (Nat → Nat → Int32))) (hkb : ∀ (s_self : Nat → Nat → Int32) (v2 : Int32), kb s_self v2 = some (r, f_self) → Gd p l e rm_Sr_lengthFor s m args below meth c 0 0 (MQ below (sq D classes (tyK K) (some (.int r)) [wd_Sr K a_self (a_grammar 0) f_self, wd_Gr K a_grammar s_grammar] A) args s 0 0 A) D classes A 4 23 [wd_Sr K a_self (a_grammar 0) s_self, wd_Gr K a_grammar s_grammar] [(0, .ref (a_self 0)), (1, .int v1), (2, .int v2)] []) (kx71 : (Nat → Nat → Int32) → Option ((Int32) × (Nat → Nat → Int32))) (hkx71 : ∀ (s_self : Nat → Nat → Int32), kx71 s_self = some (r, f_self) → Gd p l e rm_Sr_lengthFor s m args below meth c 0 0 (MQ below (sq D classes (tyK K) (some (.int r)) [wd_Sr K a_self (a_grammar 0) f_self, wd_Gr K a_grammar s_grammar] A) args s 0 0 A) D classes A 4 71 [wd_Sr K a_self (a_grammar 0) s_self, wd_Gr K a_grammar s_grammar] [(0, .ref (a_self 0)), (1, .int v1)] []) (h : f_Sr_lengthFor_65 N kb kx71 s_self s_grammar v1 v2 = some (r, f_self)) : Gd p l e rm_Sr_lengthFor s m args below meth c 0 0 (MQ below (sq D classes (tyK K) (some (.int r)) [wd_Sr K a_self (a_grammar 0) f_self, wd_Gr K a_grammar s_grammar] A) args s 0 0 A) D classes A 4 65 [wd_Sr K a_self (a_grammar 0) s_self, wd_Gr K a_grammar s_grammar] [(0, .ref (a_self 0)), (1, .int v1), (2, .int v2)] [] := by
  unfold f_Sr_lengthFor_65 at h
  obtain ⟨v2_1, ev2_1, h⟩ := nm_e' h
  refine gd_iinc X (v := v2_1) (lv' := [(2, .int v2_1), (0, .ref (a_self 0)), (1, .int v1)]) d_Sr_lengthFor_65 (k := 2) rfl (by rw [ev2_1]; rfl) (by decide) rfl ?_
  refine gd_goto X (tgt := 23) d_Sr_lengthFor_68 (by decide) ?_
  refine gd_loc (lv' := [(0, .ref (a_self 0)), (1, .int v1), (2, .int v2_1)]) [1, 2, 0] rfl ?_
  exact hkb s_self v2_1 h
def l_Sr_lengthFor_31 (N : Nat) (s_grammar : Nat → Nat → Int32) (v1 v2 : Int32) (kx65 : (Nat → Nat → Int32) → Option ((Int32) × (Nat → Nat → Int32))) : Nat → (Nat → Nat → Int32) → Int32 → Option ((Int32) × (Nat → Nat → Int32))
  | 0, _, _ => none
  | n + 1, s_self, v3 => f_Sr_lengthFor_31 N (l_Sr_lengthFor_31 N s_grammar v1 v2 kx65 n) kx65 s_self s_grammar v1 v2 v3
set_option maxHeartbeats 4000000 in
set_option maxRecDepth 100000 in
theorem tl_Sr_lengthFor_31 {p : Program} {l : Launch} {e : Env} {s : State} {m : MethodId} {args : Array Value} {below : List Frame} {meth : Method} {c : Code} {A : Nat → Prop} {D : va_G} {K : Nat → ClassId} (a_self a_grammar : Nat → Nat) (X : gx p s m args c b_Sr_lengthFor 4 R_Sr w_Sr_lengthFor D classes (tyK K) A) (hr : meth.sig.returnType = some .int) (hlk : meth.locks = false) (N : Nat) (r : Int32) (f_self : Nat → Nat → Int32) (s_grammar : Nat → Nat → Int32) (v1 v2 : Int32) (kx65 : (Nat → Nat → Int32) → Option ((Int32) × (Nat → Nat → Int32))) (hkx65 : ∀ (s_self : Nat → Nat → Int32), kx65 s_self = some (r, f_self) → Gd p l e rm_Sr_lengthFor s m args below meth c 0 0 (MQ below (sq D classes (tyK K) (some (.int r)) [wd_Sr K a_self (a_grammar 0) f_self, wd_Gr K a_grammar s_grammar] A) args s 0 0 A) D classes A 4 65 [wd_Sr K a_self (a_grammar 0) s_self, wd_Gr K a_grammar s_grammar] [(0, .ref (a_self 0)), (1, .int v1), (2, .int v2)] []) : ∀ (n : Nat) (s_self : Nat → Nat → Int32) (v3 : Int32), l_Sr_lengthFor_31 N s_grammar v1 v2 kx65 n s_self v3 = some (r, f_self) → Gd p l e rm_Sr_lengthFor s m args below meth c 0 0 (MQ below (sq D classes (tyK K) (some (.int r)) [wd_Sr K a_self (a_grammar 0) f_self, wd_Gr K a_grammar s_grammar] A) args s 0 0 A) D classes A 4 31 [wd_Sr K a_self (a_grammar 0) s_self, wd_Gr K a_grammar s_grammar] [(0, .ref (a_self 0)), (1, .int v1), (2, .int v2), (3, .int v3)] [] := by
  intro n
  induction n with
  | zero => intro s_self v3 h; have h : (none : Option ((Int32) × (Nat → Nat → Int32))) = some _ := h; cases h
  | succ n ih =>
    intro s_self v3 h
    exact t_Sr_lengthFor_31 a_self a_grammar X hr hlk N r f_self s_self s_grammar v1 v2 v3 (l_Sr_lengthFor_31 N s_grammar v1 v2 kx65 n) ih kx65 hkx65 h
def f_Sr_lengthFor_23 (N : Nat) (kb : (Nat → Nat → Int32) → Int32 → Option ((Int32) × (Nat → Nat → Int32))) (kx71 : (Nat → Nat → Int32) → Option ((Int32) × (Nat → Nat → Int32))) (s_self s_grammar : Nat → Nat → Int32) (v1 v2 : Int32) : Option ((Int32) × (Nat → Nat → Int32)) :=
  if 6 ≤ v2 then
    kx71 s_self
  else
    l_Sr_lengthFor_31 N s_grammar v1 v2 (fun s_self => f_Sr_lengthFor_65 N kb kx71 s_self s_grammar v1 v2) N s_self 0
set_option maxHeartbeats 4000000 in
set_option maxRecDepth 100000 in
theorem t_Sr_lengthFor_23 {p : Program} {l : Launch} {e : Env} {s : State} {m : MethodId} {args : Array Value} {below : List Frame} {meth : Method} {c : Code} {A : Nat → Prop} {D : va_G} {K : Nat → ClassId} (a_self a_grammar : Nat → Nat) (X : gx p s m args c b_Sr_lengthFor 4 R_Sr w_Sr_lengthFor D classes (tyK K) A) (hr : meth.sig.returnType = some .int) (hlk : meth.locks = false) (N : Nat) (r : Int32) (f_self : Nat → Nat → Int32) (s_self s_grammar : Nat → Nat → Int32) (v1 v2 : Int32) (kb : (Nat → Nat → Int32) → Int32 → Option ((Int32) × (Nat → Nat → Int32))) (hkb : ∀ (s_self : Nat → Nat → Int32) (v2 : Int32), kb s_self v2 = some (r, f_self) → Gd p l e rm_Sr_lengthFor s m args below meth c 0 0 (MQ below (sq D classes (tyK K) (some (.int r)) [wd_Sr K a_self (a_grammar 0) f_self, wd_Gr K a_grammar s_grammar] A) args s 0 0 A) D classes A 4 23 [wd_Sr K a_self (a_grammar 0) s_self, wd_Gr K a_grammar s_grammar] [(0, .ref (a_self 0)), (1, .int v1), (2, .int v2)] []) (kx71 : (Nat → Nat → Int32) → Option ((Int32) × (Nat → Nat → Int32))) (hkx71 : ∀ (s_self : Nat → Nat → Int32), kx71 s_self = some (r, f_self) → Gd p l e rm_Sr_lengthFor s m args below meth c 0 0 (MQ below (sq D classes (tyK K) (some (.int r)) [wd_Sr K a_self (a_grammar 0) f_self, wd_Gr K a_grammar s_grammar] A) args s 0 0 A) D classes A 4 71 [wd_Sr K a_self (a_grammar 0) s_self, wd_Gr K a_grammar s_grammar] [(0, .ref (a_self 0)), (1, .int v1)] []) (h : f_Sr_lengthFor_23 N kb kx71 s_self s_grammar v1 v2 = some (r, f_self)) : Gd p l e rm_Sr_lengthFor s m args below meth c 0 0 (MQ below (sq D classes (tyK K) (some (.int r)) [wd_Sr K a_self (a_grammar 0) f_self, wd_Gr K a_grammar s_grammar] A) args s 0 0 A) D classes A 4 23 [wd_Sr K a_self (a_grammar 0) s_self, wd_Gr K a_grammar s_grammar] [(0, .ref (a_self 0)), (1, .int v1), (2, .int v2)] [] := by
  unfold f_Sr_lengthFor_23 at h
  refine gd_iload_n X d_Sr_lengthFor_23 2 rfl ?_
  refine gd_bipush X (v := 6) d_Sr_lengthFor_24 (by decide) ?_
  refine gd_icmp_ge X (tgt := 71) d_Sr_lengthFor_26 (by decide) (fun c_1 => ?_) (fun c_1 => ?_)
  · replace h := it_p c_1 h
    refine gd_loc (lv' := [(0, .ref (a_self 0)), (1, .int v1)]) [0, 1] rfl ?_
    exact hkx71 s_self h
  · replace h := it_n c_1 h
    refine gd_iconst X (v := 0) d_Sr_lengthFor_29 (by decide) ?_
    refine gd_istore_n X (lv' := [(3, .int 0), (0, .ref (a_self 0)), (1, .int v1), (2, .int v2)]) d_Sr_lengthFor_30 rfl (by decide) rfl ?_
    refine gd_loc (lv' := [(0, .ref (a_self 0)), (1, .int v1), (2, .int v2), (3, .int 0)]) [1, 2, 3, 0] rfl ?_
    exact tl_Sr_lengthFor_31 a_self a_grammar X hr hlk N r f_self s_grammar v1 v2 (fun s_self => f_Sr_lengthFor_65 N kb kx71 s_self s_grammar v1 v2) (fun s_self h => t_Sr_lengthFor_65 a_self a_grammar X hr hlk N r f_self s_self s_grammar v1 v2 kb hkb kx71 hkx71 h) N s_self 0 h
def f_Sr_lengthFor_71 (N : Nat) (s_self s_grammar : Nat → Nat → Int32) (v1 : Int32) : Option ((Int32) × (Nat → Nat → Int32)) :=
  bd1 (m_Sr_lengthSoFar s_self v1) fun r_1 =>
  some ((r_1), s_self)
set_option maxHeartbeats 4000000 in
set_option maxRecDepth 100000 in
theorem t_Sr_lengthFor_71 {p : Program} {l : Launch} {e : Env} {s : State} {m : MethodId} {args : Array Value} {below : List Frame} {meth : Method} {c : Code} {A : Nat → Prop} {D : va_G} {K : Nat → ClassId} (a_self a_grammar : Nat → Nat) (X : gx p s m args c b_Sr_lengthFor 4 R_Sr w_Sr_lengthFor D classes (tyK K) A) (hr : meth.sig.returnType = some .int) (hlk : meth.locks = false) (N : Nat) (r : Int32) (f_self : Nat → Nat → Int32) (s_self s_grammar : Nat → Nat → Int32) (v1 : Int32) (h : f_Sr_lengthFor_71 N s_self s_grammar v1 = some (r, f_self)) : Gd p l e rm_Sr_lengthFor s m args below meth c 0 0 (MQ below (sq D classes (tyK K) (some (.int r)) [wd_Sr K a_self (a_grammar 0) f_self, wd_Gr K a_grammar s_grammar] A) args s 0 0 A) D classes A 4 71 [wd_Sr K a_self (a_grammar 0) s_self, wd_Gr K a_grammar s_grammar] [(0, .ref (a_self 0)), (1, .int v1)] [] := by
  unfold f_Sr_lengthFor_71 at h
  refine gd_aload_n X d_Sr_lengthFor_71 0 rfl ?_
  refine gd_iload_n X d_Sr_lengthFor_72 1 rfl ?_
  obtain ⟨r_1, hc_2, h⟩ := bd1_e h
  refine gd_pI X (gd_V X (As := [.int v1]) (rest := []) (c_Sr_lengthSoFar l D K a_self a_grammar s_self v1 r_1 hc_2) 1 (gi_V ml_Sr_36 u_Sr_lengthSoFar) rfl ⟨rfl, rfl⟩ (by decide +kernel) ⟨by decide, by decide⟩ (ci := 5) rfl rfl rfl rfl rfl rfl (Nat.le_of_ble_eq_true rfl) ⟨Nat.zero_le _, Nat.zero_le _⟩ d_Sr_lengthFor_73) [0] rfl rfl ?_
  cases h
  exact gd_iret X hr hlk d_Sr_lengthFor_76
def l_Sr_lengthFor_23 (N : Nat) (s_grammar : Nat → Nat → Int32) (v1 : Int32) (kx71 : (Nat → Nat → Int32) → Option ((Int32) × (Nat → Nat → Int32))) : Nat → (Nat → Nat → Int32) → Int32 → Option ((Int32) × (Nat → Nat → Int32))
  | 0, _, _ => none
  | n + 1, s_self, v2 => f_Sr_lengthFor_23 N (l_Sr_lengthFor_23 N s_grammar v1 kx71 n) kx71 s_self s_grammar v1 v2
set_option maxHeartbeats 4000000 in
set_option maxRecDepth 100000 in
theorem tl_Sr_lengthFor_23 {p : Program} {l : Launch} {e : Env} {s : State} {m : MethodId} {args : Array Value} {below : List Frame} {meth : Method} {c : Code} {A : Nat → Prop} {D : va_G} {K : Nat → ClassId} (a_self a_grammar : Nat → Nat) (X : gx p s m args c b_Sr_lengthFor 4 R_Sr w_Sr_lengthFor D classes (tyK K) A) (hr : meth.sig.returnType = some .int) (hlk : meth.locks = false) (N : Nat) (r : Int32) (f_self : Nat → Nat → Int32) (s_grammar : Nat → Nat → Int32) (v1 : Int32) (kx71 : (Nat → Nat → Int32) → Option ((Int32) × (Nat → Nat → Int32))) (hkx71 : ∀ (s_self : Nat → Nat → Int32), kx71 s_self = some (r, f_self) → Gd p l e rm_Sr_lengthFor s m args below meth c 0 0 (MQ below (sq D classes (tyK K) (some (.int r)) [wd_Sr K a_self (a_grammar 0) f_self, wd_Gr K a_grammar s_grammar] A) args s 0 0 A) D classes A 4 71 [wd_Sr K a_self (a_grammar 0) s_self, wd_Gr K a_grammar s_grammar] [(0, .ref (a_self 0)), (1, .int v1)] []) : ∀ (n : Nat) (s_self : Nat → Nat → Int32) (v2 : Int32), l_Sr_lengthFor_23 N s_grammar v1 kx71 n s_self v2 = some (r, f_self) → Gd p l e rm_Sr_lengthFor s m args below meth c 0 0 (MQ below (sq D classes (tyK K) (some (.int r)) [wd_Sr K a_self (a_grammar 0) f_self, wd_Gr K a_grammar s_grammar] A) args s 0 0 A) D classes A 4 23 [wd_Sr K a_self (a_grammar 0) s_self, wd_Gr K a_grammar s_grammar] [(0, .ref (a_self 0)), (1, .int v1), (2, .int v2)] [] := by
  intro n
  induction n with
  | zero => intro s_self v2 h; have h : (none : Option ((Int32) × (Nat → Nat → Int32))) = some _ := h; cases h
  | succ n ih =>
    intro s_self v2 h
    exact t_Sr_lengthFor_23 a_self a_grammar X hr hlk N r f_self s_self s_grammar v1 v2 (l_Sr_lengthFor_23 N s_grammar v1 kx71 n) ih kx71 hkx71 h
def f_Sr_lengthFor_21 (N : Nat) (s_self s_grammar : Nat → Nat → Int32) (v1 : Int32) : Option ((Int32) × (Nat → Nat → Int32)) :=
  l_Sr_lengthFor_23 N s_grammar v1 (fun s_self => f_Sr_lengthFor_71 N s_self s_grammar v1) N s_self 0
set_option maxHeartbeats 4000000 in
set_option maxRecDepth 100000 in
theorem t_Sr_lengthFor_21 {p : Program} {l : Launch} {e : Env} {s : State} {m : MethodId} {args : Array Value} {below : List Frame} {meth : Method} {c : Code} {A : Nat → Prop} {D : va_G} {K : Nat → ClassId} (a_self a_grammar : Nat → Nat) (X : gx p s m args c b_Sr_lengthFor 4 R_Sr w_Sr_lengthFor D classes (tyK K) A) (hr : meth.sig.returnType = some .int) (hlk : meth.locks = false) (N : Nat) (r : Int32) (f_self : Nat → Nat → Int32) (s_self s_grammar : Nat → Nat → Int32) (v1 : Int32) (h : f_Sr_lengthFor_21 N s_self s_grammar v1 = some (r, f_self)) : Gd p l e rm_Sr_lengthFor s m args below meth c 0 0 (MQ below (sq D classes (tyK K) (some (.int r)) [wd_Sr K a_self (a_grammar 0) f_self, wd_Gr K a_grammar s_grammar] A) args s 0 0 A) D classes A 4 21 [wd_Sr K a_self (a_grammar 0) s_self, wd_Gr K a_grammar s_grammar] [(0, .ref (a_self 0)), (1, .int v1)] [] := by
  unfold f_Sr_lengthFor_21 at h
  refine gd_iconst X (v := 0) d_Sr_lengthFor_21 (by decide) ?_
  refine gd_istore_n X (lv' := [(2, .int 0), (0, .ref (a_self 0)), (1, .int v1)]) d_Sr_lengthFor_22 rfl (by decide) rfl ?_
  refine gd_loc (lv' := [(0, .ref (a_self 0)), (1, .int v1), (2, .int 0)]) [1, 2, 0] rfl ?_
  exact tl_Sr_lengthFor_23 a_self a_grammar X hr hlk N r f_self s_grammar v1 (fun s_self => f_Sr_lengthFor_71 N s_self s_grammar v1) (fun s_self h => t_Sr_lengthFor_71 a_self a_grammar X hr hlk N r f_self s_self s_grammar v1 h) N s_self 0 h
def l_Sr_lengthFor_2 (N : Nat) (s_grammar : Nat → Nat → Int32) (v1 : Int32) (kx21 : (Nat → Nat → Int32) → Option ((Int32) × (Nat → Nat → Int32))) : Nat → (Nat → Nat → Int32) → Int32 → Option ((Int32) × (Nat → Nat → Int32))
  | 0, _, _ => none
  | n + 1, s_self, v2 => f_Sr_lengthFor_2 N (l_Sr_lengthFor_2 N s_grammar v1 kx21 n) kx21 s_self s_grammar v1 v2
set_option maxHeartbeats 4000000 in
set_option maxRecDepth 100000 in
theorem tl_Sr_lengthFor_2 {p : Program} {l : Launch} {e : Env} {s : State} {m : MethodId} {args : Array Value} {below : List Frame} {meth : Method} {c : Code} {A : Nat → Prop} {D : va_G} {K : Nat → ClassId} (a_self a_grammar : Nat → Nat) (X : gx p s m args c b_Sr_lengthFor 4 R_Sr w_Sr_lengthFor D classes (tyK K) A) (hr : meth.sig.returnType = some .int) (hlk : meth.locks = false) (N : Nat) (r : Int32) (f_self : Nat → Nat → Int32) (s_grammar : Nat → Nat → Int32) (v1 : Int32) (kx21 : (Nat → Nat → Int32) → Option ((Int32) × (Nat → Nat → Int32))) (hkx21 : ∀ (s_self : Nat → Nat → Int32), kx21 s_self = some (r, f_self) → Gd p l e rm_Sr_lengthFor s m args below meth c 0 0 (MQ below (sq D classes (tyK K) (some (.int r)) [wd_Sr K a_self (a_grammar 0) f_self, wd_Gr K a_grammar s_grammar] A) args s 0 0 A) D classes A 4 21 [wd_Sr K a_self (a_grammar 0) s_self, wd_Gr K a_grammar s_grammar] [(0, .ref (a_self 0)), (1, .int v1)] []) : ∀ (n : Nat) (s_self : Nat → Nat → Int32) (v2 : Int32), l_Sr_lengthFor_2 N s_grammar v1 kx21 n s_self v2 = some (r, f_self) → Gd p l e rm_Sr_lengthFor s m args below meth c 0 0 (MQ below (sq D classes (tyK K) (some (.int r)) [wd_Sr K a_self (a_grammar 0) f_self, wd_Gr K a_grammar s_grammar] A) args s 0 0 A) D classes A 4 2 [wd_Sr K a_self (a_grammar 0) s_self, wd_Gr K a_grammar s_grammar] [(0, .ref (a_self 0)), (1, .int v1), (2, .int v2)] [] := by
  intro n
  induction n with
  | zero => intro s_self v2 h; have h : (none : Option ((Int32) × (Nat → Nat → Int32))) = some _ := h; cases h
  | succ n ih =>
    intro s_self v2 h
    exact t_Sr_lengthFor_2 a_self a_grammar X hr hlk N r f_self s_self s_grammar v1 v2 (l_Sr_lengthFor_2 N s_grammar v1 kx21 n) ih kx21 hkx21 h
def f_Sr_lengthFor_0 (N : Nat) (s_self s_grammar : Nat → Nat → Int32) (v1 : Int32) : Option ((Int32) × (Nat → Nat → Int32)) :=
  l_Sr_lengthFor_2 N s_grammar v1 (fun s_self => f_Sr_lengthFor_21 N s_self s_grammar v1) N s_self 0
set_option maxHeartbeats 4000000 in
set_option maxRecDepth 100000 in
theorem t_Sr_lengthFor_0 {p : Program} {l : Launch} {e : Env} {s : State} {m : MethodId} {args : Array Value} {below : List Frame} {meth : Method} {c : Code} {A : Nat → Prop} {D : va_G} {K : Nat → ClassId} (a_self a_grammar : Nat → Nat) (X : gx p s m args c b_Sr_lengthFor 4 R_Sr w_Sr_lengthFor D classes (tyK K) A) (hr : meth.sig.returnType = some .int) (hlk : meth.locks = false) (N : Nat) (r : Int32) (f_self : Nat → Nat → Int32) (s_self s_grammar : Nat → Nat → Int32) (v1 : Int32) (h : f_Sr_lengthFor_0 N s_self s_grammar v1 = some (r, f_self)) : Gd p l e rm_Sr_lengthFor s m args below meth c 0 0 (MQ below (sq D classes (tyK K) (some (.int r)) [wd_Sr K a_self (a_grammar 0) f_self, wd_Gr K a_grammar s_grammar] A) args s 0 0 A) D classes A 4 0 [wd_Sr K a_self (a_grammar 0) s_self, wd_Gr K a_grammar s_grammar] [(0, .ref (a_self 0)), (1, .int v1)] [] := by
  unfold f_Sr_lengthFor_0 at h
  refine gd_iconst X (v := 0) d_Sr_lengthFor_0 (by decide) ?_
  refine gd_istore_n X (lv' := [(2, .int 0), (0, .ref (a_self 0)), (1, .int v1)]) d_Sr_lengthFor_1 rfl (by decide) rfl ?_
  refine gd_loc (lv' := [(0, .ref (a_self 0)), (1, .int v1), (2, .int 0)]) [1, 2, 0] rfl ?_
  exact tl_Sr_lengthFor_2 a_self a_grammar X hr hlk N r f_self s_grammar v1 (fun s_self => f_Sr_lengthFor_21 N s_self s_grammar v1) (fun s_self h => t_Sr_lengthFor_21 a_self a_grammar X hr hlk N r f_self s_self s_grammar v1 h) N s_self 0 h
def m_Sr_lengthFor (N : Nat) (s_self s_grammar : Nat → Nat → Int32) (v1 : Int32) : Option ((Int32) × (Nat → Nat → Int32)) := f_Sr_lengthFor_0 N s_self s_grammar v1
set_option maxHeartbeats 4000000 in
set_option maxRecDepth 100000 in
theorem c_Sr_lengthFor (l : Launch) (D : va_G) (K : Nat → ClassId) (a_self a_grammar : Nat → Nat) (N : Nat) (s_self s_grammar : Nat → Nat → Int32) (v1 : Int32) (r : Int32) (f_self : Nat → Nat → Int32) (h : m_Sr_lengthFor N s_self s_grammar v1 = some (r, f_self)) : SMet l y_Sr_lengthFor w_Sr_lengthFor rm_Sr_lengthFor D classes (tyK K) [.ref (a_self 0), .int v1] (some (.int r)) [wd_Sr K a_self (a_grammar 0) s_self, wd_Gr K a_grammar s_grammar] [wd_Sr K a_self (a_grammar 0) f_self, wd_Gr K a_grammar s_grammar] := by
  refine sm_of R_Sr (by decide) rfl rfl (Nat.le_of_ble_eq_true rfl) ?_
  intro p e s m below meth c A X hr hlk
  refine gd_loc (lv' := [(0, .ref (a_self 0)), (1, .int v1)]) [0, 1] rfl ?_
  exact t_Sr_lengthFor_0 a_self a_grammar X hr hlk N r f_self s_self s_grammar v1 h
abbrev b_Rt_sort : ByteArray := prog_1_method_2_code
def y_Rt_sort : MethodName := ⟨R_Rt, "sort", "()I"⟩
def w_Rt_sort : List Cond := .code y_Rt_sort b_Rt_sort 1 (some .int) :: TB
theorem k_Rt_sort : Cond.code y_Rt_sort b_Rt_sort 1 (some .int) ∈ TB := tb_of 292 (by decide +kernel) (by decide +kernel)
theorem d_Rt_sort_0 : decode b_Rt_sort 0 = .ok (.aload_n 0, 1) := by decide +kernel
theorem d_Rt_sort_1 : decode b_Rt_sort 1 = .ok (.getfield 12, 3) := by decide +kernel
theorem d_Rt_sort_4 : decode b_Rt_sort 4 = .ok (.invokevirtual 61, 3) := by decide +kernel
theorem d_Rt_sort_7 : decode b_Rt_sort 7 = .ok (.ireturn, 1) := by decide +kernel
theorem fl_Rt_12 : Cond.fieldLink R_Rt 12 "RuleTrees" "grammar" "LRuleTrees$Grammar;" ∈ TB := tb_of 261 (by decide +kernel) (by decide +kernel)
theorem ml_Rt_61 : Cond.methodLink R_Rt 61 ⟨"RuleTrees$Grammar", "addSort", "()I"⟩ ∈ TB := tb_of 293 (by decide +kernel) (by decide +kernel)
theorem u_Gr_addSort : (Cond.instanceMethod y_Gr_addSort ∈ TB ∧ Cond.selects R_Gr y_Gr_addSort y_Gr_addSort ∈ TB) ∧ Cond.initialized R_Gr ∈ TB ∧ Cond.code y_Gr_addSort b_Gr_addSort 1 (some .int) ∈ TB := ⟨⟨(tb_of 294 (by decide +kernel) (by decide +kernel)), (tb_of 295 (by decide +kernel) (by decide +kernel))⟩, (tb_of 63 (by decide +kernel) (by decide +kernel)), k_Gr_addSort⟩
abbrev rm_Rt_sort : Room := { frames := 1, cells := 0, slots := 0, locals := 20 }
def f_Rt_sort_0 (s_self s_grammar : Nat → Nat → Int32) : Option ((Int32) × (Nat → Nat → Int32)) :=
  bd2 (m_Gr_addSort s_grammar) fun r_1 s_grammar_2 =>
  some ((r_1), s_grammar_2)
set_option maxHeartbeats 4000000 in
set_option maxRecDepth 100000 in
theorem t_Rt_sort_0 {p : Program} {l : Launch} {e : Env} {s : State} {m : MethodId} {args : Array Value} {below : List Frame} {meth : Method} {c : Code} {A : Nat → Prop} {D : va_G} {K : Nat → ClassId} (a_self a_grammar a_chart a_grower a_short a_row a_tape a_least a_next : Nat → Nat) (X : gx p s m args c b_Rt_sort 1 R_Rt w_Rt_sort D classes (tyK K) A) (hr : meth.sig.returnType = some .int) (hlk : meth.locks = false) (r : Int32) (f_grammar : Nat → Nat → Int32) (s_self s_grammar : Nat → Nat → Int32) (h : f_Rt_sort_0 s_self s_grammar = some (r, f_grammar)) : Gd p l e rm_Rt_sort s m args below meth c 0 0 (MQ below (sq D classes (tyK K) (some (.int r)) [wd_Rt K a_self (a_grammar 0) (a_chart 0) (a_grower 0) (a_short 0) (a_row 0) (a_tape 0) (a_least 0) (a_next 0) s_self, wd_Gr K a_grammar f_grammar] A) args s 0 0 A) D classes A 1 0 [wd_Rt K a_self (a_grammar 0) (a_chart 0) (a_grower 0) (a_short 0) (a_row 0) (a_tape 0) (a_least 0) (a_next 0) s_self, wd_Gr K a_grammar s_grammar] [(0, .ref (a_self 0))] [] := by
  unfold f_Rt_sort_0 at h
  refine gd_aload_n X d_Rt_sort_0 0 rfl ?_
  refine gd_get X (ci := 6) (C := R_Rt) (T := F_Rt) (N := 9) (v := .ref (a_grammar 0)) 0 0 rfl rfl rfl (in_Rt _) 0 (by decide) (List.mem_cons_of_mem _ fl_Rt_12) rfl rfl d_Rt_sort_1 ?_
  obtain ⟨r_1, s_grammar_2, hc_3, h⟩ := bd2_e h
  refine gd_cI X (gd_V X (As := []) (rest := []) (c_Gr_addSort l D K a_grammar s_grammar r_1 s_grammar_2 hc_3) 0 (gi_V ml_Rt_61 u_Gr_addSort) rfl ⟨rfl, rfl⟩ (by decide +kernel) ⟨by decide, by decide⟩ (ci := 1) rfl rfl rfl rfl rfl rfl (Nat.le_of_ble_eq_true rfl) ⟨Nat.zero_le _, Nat.zero_le _⟩ d_Rt_sort_4) (w2 := [wd_Rt K a_self (a_grammar 0) (a_chart 0) (a_grower 0) (a_short 0) (a_row 0) (a_tape 0) (a_least 0) (a_next 0) s_self, wd_Gr K a_grammar s_grammar_2]) [1] [0] rfl rfl rfl rfl ⟨rfl, rfl⟩ rfl ?_
  cases h
  exact gd_iret X hr hlk d_Rt_sort_7
def m_Rt_sort (s_self s_grammar : Nat → Nat → Int32) : Option ((Int32) × (Nat → Nat → Int32)) := f_Rt_sort_0 s_self s_grammar
set_option maxHeartbeats 4000000 in
set_option maxRecDepth 100000 in
theorem c_Rt_sort (l : Launch) (D : va_G) (K : Nat → ClassId) (a_self a_grammar a_chart a_grower a_short a_row a_tape a_least a_next : Nat → Nat) (s_self s_grammar : Nat → Nat → Int32) (r : Int32) (f_grammar : Nat → Nat → Int32) (h : m_Rt_sort s_self s_grammar = some (r, f_grammar)) : SMet l y_Rt_sort w_Rt_sort rm_Rt_sort D classes (tyK K) [.ref (a_self 0)] (some (.int r)) [wd_Rt K a_self (a_grammar 0) (a_chart 0) (a_grower 0) (a_short 0) (a_row 0) (a_tape 0) (a_least 0) (a_next 0) s_self, wd_Gr K a_grammar s_grammar] [wd_Rt K a_self (a_grammar 0) (a_chart 0) (a_grower 0) (a_short 0) (a_row 0) (a_tape 0) (a_least 0) (a_next 0) s_self, wd_Gr K a_grammar f_grammar] := by
  refine sm_of R_Rt (by decide) rfl rfl (Nat.le_of_ble_eq_true rfl) ?_
  intro p e s m below meth c A X hr hlk
  refine gd_loc (lv' := [(0, .ref (a_self 0))]) [0] rfl ?_
  exact t_Rt_sort_0 a_self a_grammar a_chart a_grower a_short a_row a_tape a_least a_next X hr hlk r f_grammar s_self s_grammar h
abbrev b_Rt_variable : ByteArray := prog_1_method_3_code
def y_Rt_variable : MethodName := ⟨R_Rt, "variable", "(I)I"⟩
def w_Rt_variable : List Cond := .code y_Rt_variable b_Rt_variable 2 (some .int) :: TB
theorem k_Rt_variable : Cond.code y_Rt_variable b_Rt_variable 2 (some .int) ∈ TB := tb_of 300 (by decide +kernel) (by decide +kernel)
theorem d_Rt_variable_0 : decode b_Rt_variable 0 = .ok (.aload_n 0, 1) := by decide +kernel
theorem d_Rt_variable_1 : decode b_Rt_variable 1 = .ok (.getfield 12, 3) := by decide +kernel
theorem d_Rt_variable_4 : decode b_Rt_variable 4 = .ok (.iload_n 1, 1) := by decide +kernel
theorem d_Rt_variable_5 : decode b_Rt_variable 5 = .ok (.invokevirtual 65, 3) := by decide +kernel
theorem d_Rt_variable_8 : decode b_Rt_variable 8 = .ok (.ireturn, 1) := by decide +kernel
theorem ml_Rt_65 : Cond.methodLink R_Rt 65 ⟨"RuleTrees$Grammar", "addVariable", "(I)I"⟩ ∈ TB := tb_of 301 (by decide +kernel) (by decide +kernel)
theorem u_Gr_addVariable : (Cond.instanceMethod y_Gr_addVariable ∈ TB ∧ Cond.selects R_Gr y_Gr_addVariable y_Gr_addVariable ∈ TB) ∧ Cond.initialized R_Gr ∈ TB ∧ Cond.code y_Gr_addVariable b_Gr_addVariable 2 (some .int) ∈ TB := ⟨⟨(tb_of 302 (by decide +kernel) (by decide +kernel)), (tb_of 303 (by decide +kernel) (by decide +kernel))⟩, (tb_of 63 (by decide +kernel) (by decide +kernel)), k_Gr_addVariable⟩
abbrev rm_Rt_variable : Room := { frames := 2, cells := 0, slots := 0, locals := 42 }
def f_Rt_variable_0 (s_self s_grammar : Nat → Nat → Int32) (v1 : Int32) : Option ((Int32) × (Nat → Nat → Int32)) :=
  bd2 (m_Gr_addVariable s_grammar v1) fun r_1 s_grammar_2 =>
  some ((r_1), s_grammar_2)
set_option maxHeartbeats 4000000 in
set_option maxRecDepth 100000 in
theorem t_Rt_variable_0 {p : Program} {l : Launch} {e : Env} {s : State} {m : MethodId} {args : Array Value} {below : List Frame} {meth : Method} {c : Code} {A : Nat → Prop} {D : va_G} {K : Nat → ClassId} (a_self a_grammar a_chart a_grower a_short a_row a_tape a_least a_next : Nat → Nat) (X : gx p s m args c b_Rt_variable 2 R_Rt w_Rt_variable D classes (tyK K) A) (hr : meth.sig.returnType = some .int) (hlk : meth.locks = false) (r : Int32) (f_grammar : Nat → Nat → Int32) (s_self s_grammar : Nat → Nat → Int32) (v1 : Int32) (h : f_Rt_variable_0 s_self s_grammar v1 = some (r, f_grammar)) : Gd p l e rm_Rt_variable s m args below meth c 0 0 (MQ below (sq D classes (tyK K) (some (.int r)) [wd_Rt K a_self (a_grammar 0) (a_chart 0) (a_grower 0) (a_short 0) (a_row 0) (a_tape 0) (a_least 0) (a_next 0) s_self, wd_Gr K a_grammar f_grammar] A) args s 0 0 A) D classes A 2 0 [wd_Rt K a_self (a_grammar 0) (a_chart 0) (a_grower 0) (a_short 0) (a_row 0) (a_tape 0) (a_least 0) (a_next 0) s_self, wd_Gr K a_grammar s_grammar] [(0, .ref (a_self 0)), (1, .int v1)] [] := by
  unfold f_Rt_variable_0 at h
  refine gd_aload_n X d_Rt_variable_0 0 rfl ?_
  refine gd_get X (ci := 6) (C := R_Rt) (T := F_Rt) (N := 9) (v := .ref (a_grammar 0)) 0 0 rfl rfl rfl (in_Rt _) 0 (by decide) (List.mem_cons_of_mem _ fl_Rt_12) rfl rfl d_Rt_variable_1 ?_
  refine gd_iload_n X d_Rt_variable_4 1 rfl ?_
  obtain ⟨r_1, s_grammar_2, hc_3, h⟩ := bd2_e h
  refine gd_cI X (gd_V X (As := [.int v1]) (rest := []) (c_Gr_addVariable l D K a_grammar s_grammar v1 r_1 s_grammar_2 hc_3) 1 (gi_V ml_Rt_65 u_Gr_addVariable) rfl ⟨rfl, rfl⟩ (by decide +kernel) ⟨by decide, by decide⟩ (ci := 1) rfl rfl rfl rfl rfl rfl (Nat.le_of_ble_eq_true rfl) ⟨Nat.zero_le _, Nat.zero_le _⟩ d_Rt_variable_5) (w2 := [wd_Rt K a_self (a_grammar 0) (a_chart 0) (a_grower 0) (a_short 0) (a_row 0) (a_tape 0) (a_least 0) (a_next 0) s_self, wd_Gr K a_grammar s_grammar_2]) [1] [0] rfl rfl rfl rfl ⟨rfl, rfl⟩ rfl ?_
  cases h
  exact gd_iret X hr hlk d_Rt_variable_8
def m_Rt_variable (s_self s_grammar : Nat → Nat → Int32) (v1 : Int32) : Option ((Int32) × (Nat → Nat → Int32)) := f_Rt_variable_0 s_self s_grammar v1
set_option maxHeartbeats 4000000 in
set_option maxRecDepth 100000 in
theorem c_Rt_variable (l : Launch) (D : va_G) (K : Nat → ClassId) (a_self a_grammar a_chart a_grower a_short a_row a_tape a_least a_next : Nat → Nat) (s_self s_grammar : Nat → Nat → Int32) (v1 : Int32) (r : Int32) (f_grammar : Nat → Nat → Int32) (h : m_Rt_variable s_self s_grammar v1 = some (r, f_grammar)) : SMet l y_Rt_variable w_Rt_variable rm_Rt_variable D classes (tyK K) [.ref (a_self 0), .int v1] (some (.int r)) [wd_Rt K a_self (a_grammar 0) (a_chart 0) (a_grower 0) (a_short 0) (a_row 0) (a_tape 0) (a_least 0) (a_next 0) s_self, wd_Gr K a_grammar s_grammar] [wd_Rt K a_self (a_grammar 0) (a_chart 0) (a_grower 0) (a_short 0) (a_row 0) (a_tape 0) (a_least 0) (a_next 0) s_self, wd_Gr K a_grammar f_grammar] := by
  refine sm_of R_Rt (by decide) rfl rfl (Nat.le_of_ble_eq_true rfl) ?_
  intro p e s m below meth c A X hr hlk
  refine gd_loc (lv' := [(0, .ref (a_self 0)), (1, .int v1)]) [0, 1] rfl ?_
  exact t_Rt_variable_0 a_self a_grammar a_chart a_grower a_short a_row a_tape a_least a_next X hr hlk r f_grammar s_self s_grammar v1 h
abbrev b_Rt_begin : ByteArray := prog_1_method_4_code
def y_Rt_begin : MethodName := ⟨R_Rt, "begin", "(I)I"⟩
def w_Rt_begin : List Cond := .code y_Rt_begin b_Rt_begin 2 (some .int) :: TB
theorem k_Rt_begin : Cond.code y_Rt_begin b_Rt_begin 2 (some .int) ∈ TB := tb_of 312 (by decide +kernel) (by decide +kernel)
theorem d_Rt_begin_0 : decode b_Rt_begin 0 = .ok (.aload_n 0, 1) := by decide +kernel
theorem d_Rt_begin_1 : decode b_Rt_begin 1 = .ok (.getfield 12, 3) := by decide +kernel
theorem d_Rt_begin_4 : decode b_Rt_begin 4 = .ok (.iload_n 1, 1) := by decide +kernel
theorem d_Rt_begin_5 : decode b_Rt_begin 5 = .ok (.invokevirtual 69, 3) := by decide +kernel
theorem d_Rt_begin_8 : decode b_Rt_begin 8 = .ok (.ifCond .eq 7, 3) := by decide +kernel
theorem d_Rt_begin_11 : decode b_Rt_begin 11 = .ok (.iconst 1, 1) := by decide +kernel
theorem d_Rt_begin_12 : decode b_Rt_begin 12 = .ok (.goto 4, 3) := by decide +kernel
theorem d_Rt_begin_15 : decode b_Rt_begin 15 = .ok (.iconst 0, 1) := by decide +kernel
theorem d_Rt_begin_16 : decode b_Rt_begin 16 = .ok (.ireturn, 1) := by decide +kernel
theorem ml_Rt_69 : Cond.methodLink R_Rt 69 ⟨"RuleTrees$Grammar", "beginRule", "(I)Z"⟩ ∈ TB := tb_of 313 (by decide +kernel) (by decide +kernel)
theorem u_Gr_beginRule : (Cond.instanceMethod y_Gr_beginRule ∈ TB ∧ Cond.selects R_Gr y_Gr_beginRule y_Gr_beginRule ∈ TB) ∧ Cond.initialized R_Gr ∈ TB ∧ Cond.code y_Gr_beginRule b_Gr_beginRule 2 (some .boolean) ∈ TB := ⟨⟨(tb_of 314 (by decide +kernel) (by decide +kernel)), (tb_of 315 (by decide +kernel) (by decide +kernel))⟩, (tb_of 63 (by decide +kernel) (by decide +kernel)), k_Gr_beginRule⟩
abbrev rm_Rt_begin : Room := { frames := 2, cells := 0, slots := 0, locals := 42 }
def f_Rt_begin_0 (s_self s_grammar : Nat → Nat → Int32) (v1 : Int32) : Option ((Int32) × (Nat → Nat → Int32)) :=
  bd2 (m_Gr_beginRule s_grammar v1) fun r_1 s_grammar_2 =>
  if r_1 = 0 then
    some ((0), s_grammar_2)
  else
    some ((1), s_grammar_2)
set_option maxHeartbeats 4000000 in
set_option maxRecDepth 100000 in
theorem t_Rt_begin_0 {p : Program} {l : Launch} {e : Env} {s : State} {m : MethodId} {args : Array Value} {below : List Frame} {meth : Method} {c : Code} {A : Nat → Prop} {D : va_G} {K : Nat → ClassId} (a_self a_grammar a_chart a_grower a_short a_row a_tape a_least a_next : Nat → Nat) (X : gx p s m args c b_Rt_begin 2 R_Rt w_Rt_begin D classes (tyK K) A) (hr : meth.sig.returnType = some .int) (hlk : meth.locks = false) (r : Int32) (f_grammar : Nat → Nat → Int32) (s_self s_grammar : Nat → Nat → Int32) (v1 : Int32) (h : f_Rt_begin_0 s_self s_grammar v1 = some (r, f_grammar)) : Gd p l e rm_Rt_begin s m args below meth c 0 0 (MQ below (sq D classes (tyK K) (some (.int r)) [wd_Rt K a_self (a_grammar 0) (a_chart 0) (a_grower 0) (a_short 0) (a_row 0) (a_tape 0) (a_least 0) (a_next 0) s_self, wd_Gr K a_grammar f_grammar] A) args s 0 0 A) D classes A 2 0 [wd_Rt K a_self (a_grammar 0) (a_chart 0) (a_grower 0) (a_short 0) (a_row 0) (a_tape 0) (a_least 0) (a_next 0) s_self, wd_Gr K a_grammar s_grammar] [(0, .ref (a_self 0)), (1, .int v1)] [] := by
  unfold f_Rt_begin_0 at h
  refine gd_aload_n X d_Rt_begin_0 0 rfl ?_
  refine gd_get X (ci := 6) (C := R_Rt) (T := F_Rt) (N := 9) (v := .ref (a_grammar 0)) 0 0 rfl rfl rfl (in_Rt _) 0 (by decide) (List.mem_cons_of_mem _ fl_Rt_12) rfl rfl d_Rt_begin_1 ?_
  refine gd_iload_n X d_Rt_begin_4 1 rfl ?_
  obtain ⟨r_1, s_grammar_2, hc_3, h⟩ := bd2_e h
  refine gd_cI X (gd_V X (As := [.int v1]) (rest := []) (c_Gr_beginRule l D K a_grammar s_grammar v1 r_1 s_grammar_2 hc_3) 1 (gi_V ml_Rt_69 u_Gr_beginRule) rfl ⟨rfl, rfl⟩ (by decide +kernel) ⟨by decide, by decide⟩ (ci := 1) rfl rfl rfl rfl rfl rfl (Nat.le_of_ble_eq_true rfl) ⟨Nat.zero_le _, Nat.zero_le _⟩ d_Rt_begin_5) (w2 := [wd_Rt K a_self (a_grammar 0) (a_chart 0) (a_grower 0) (a_short 0) (a_row 0) (a_tape 0) (a_least 0) (a_next 0) s_self, wd_Gr K a_grammar s_grammar_2]) [1] [0] rfl rfl rfl rfl ⟨rfl, rfl⟩ rfl ?_
  refine gd_if_eq X (tgt := 15) d_Rt_begin_8 (by decide) (fun c_4 => ?_) (fun c_4 => ?_)
  · replace h := it_p c_4 h
    refine gd_iconst X (v := 0) d_Rt_begin_15 (by decide) ?_
    cases h
    exact gd_iret X hr hlk d_Rt_begin_16
  · replace h := it_n c_4 h
    refine gd_iconst X (v := 1) d_Rt_begin_11 (by decide) ?_
    refine gd_goto X (tgt := 16) d_Rt_begin_12 (by decide) ?_
    cases h
    exact gd_iret X hr hlk d_Rt_begin_16
def m_Rt_begin (s_self s_grammar : Nat → Nat → Int32) (v1 : Int32) : Option ((Int32) × (Nat → Nat → Int32)) := f_Rt_begin_0 s_self s_grammar v1
set_option maxHeartbeats 4000000 in
set_option maxRecDepth 100000 in
theorem c_Rt_begin (l : Launch) (D : va_G) (K : Nat → ClassId) (a_self a_grammar a_chart a_grower a_short a_row a_tape a_least a_next : Nat → Nat) (s_self s_grammar : Nat → Nat → Int32) (v1 : Int32) (r : Int32) (f_grammar : Nat → Nat → Int32) (h : m_Rt_begin s_self s_grammar v1 = some (r, f_grammar)) : SMet l y_Rt_begin w_Rt_begin rm_Rt_begin D classes (tyK K) [.ref (a_self 0), .int v1] (some (.int r)) [wd_Rt K a_self (a_grammar 0) (a_chart 0) (a_grower 0) (a_short 0) (a_row 0) (a_tape 0) (a_least 0) (a_next 0) s_self, wd_Gr K a_grammar s_grammar] [wd_Rt K a_self (a_grammar 0) (a_chart 0) (a_grower 0) (a_short 0) (a_row 0) (a_tape 0) (a_least 0) (a_next 0) s_self, wd_Gr K a_grammar f_grammar] := by
  refine sm_of R_Rt (by decide) rfl rfl (Nat.le_of_ble_eq_true rfl) ?_
  intro p e s m below meth c A X hr hlk
  refine gd_loc (lv' := [(0, .ref (a_self 0)), (1, .int v1)]) [0, 1] rfl ?_
  exact t_Rt_begin_0 a_self a_grammar a_chart a_grower a_short a_row a_tape a_least a_next X hr hlk r f_grammar s_self s_grammar v1 h
