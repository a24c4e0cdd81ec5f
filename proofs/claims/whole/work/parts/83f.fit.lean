/-! fit: all ways to lay a rule over a stretch -/
theorem p_same_l {N : Nat} {χ : Nat → Nat → Int32} {u w n : Nat} (hu : u + n ≤ 12) (hw : w + n ≤ 12) : ∀ (d i f : Nat), i + d = n → d < f → ((∀ k, i ≤ k → k < n → χ 2 (u + k) = χ 2 (w + k)) ∧ l_Ch_hasSameSymbols_3 N χ (nI u) (nI w) (nI n) (f_Ch_hasSameSymbols_28 N χ) (f_Ch_hasSameSymbols_36 N χ) f (nI i) = some 1) ∨ ((¬ ∀ k, i ≤ k → k < n → χ 2 (u + k) = χ 2 (w + k)) ∧ l_Ch_hasSameSymbols_3 N χ (nI u) (nI w) (nI n) (f_Ch_hasSameSymbols_28 N χ) (f_Ch_hasSameSymbols_36 N χ) f (nI i) = some 0) := by
  intro d
  induction d with
  | zero =>
    intro i f hi hf
    obtain ⟨m, rfl⟩ : ∃ m, f = m + 1 := ⟨f - 1, by omega⟩
    left
    refine ⟨fun k h1 h2 => by omega, ?_⟩
    unfold l_Ch_hasSameSymbols_3 f_Ch_hasSameSymbols_3
    simp (disch := omega) only [nm_x, b1_some, b2_some, b3_some, b4_some, ck_n, nI_clamp, nI_add, nI_1, n_1add, pk_mul, n_sub, n_sub1, n_addm1, l_2, l_3, l_4, l_5, l_6, l_7, l_8, l_9, l_10, l_11, l_12, l_13, l_20, l_30, l_31, l_36, l_120, l_150, l_200, l_240, l_248, l_400, l_468, l_601, l_936, l_937, l_1000, l_1872, l_2600, l_3744, l_3748, l_374400, l_1000001, l_1000002, c_lt_t, c_lt_f, c_le_t, c_le_f, c_eq_t, c_eq_f, c_n0, c_0le, c_0lt, c_0lt_f, c_le0, c_le0_t, c_m1, c_m1l, c_ne0, c_eq0, c_eq1, c_ne1, c_lt1, c_1lt, c_1lt_f, m1_neg, if_true, if_false]
    rfl
  | succ d ih =>
    intro i f hi hf
    obtain ⟨m, rfl⟩ : ∃ m, f = m + 1 := ⟨f - 1, by omega⟩
    unfold l_Ch_hasSameSymbols_3 f_Ch_hasSameSymbols_3
    simp (disch := omega) only [nm_x, b1_some, b2_some, b3_some, b4_some, ck_n, nI_clamp, nI_add, nI_1, n_1add, pk_mul, n_sub, n_sub1, n_addm1, l_2, l_3, l_4, l_5, l_6, l_7, l_8, l_9, l_10, l_11, l_12, l_13, l_20, l_30, l_31, l_36, l_120, l_150, l_200, l_240, l_248, l_400, l_468, l_601, l_936, l_937, l_1000, l_1872, l_2600, l_3744, l_3748, l_374400, l_1000001, l_1000002, c_lt_t, c_lt_f, c_le_t, c_le_f, c_eq_t, c_eq_f, c_n0, c_0le, c_0lt, c_0lt_f, c_le0, c_le0_t, c_m1, c_m1l, c_ne0, c_eq0, c_eq1, c_ne1, c_lt1, c_1lt, c_1lt_f, m1_neg, if_true, if_false, p_symbolIn (show u + i < 12 by omega), p_symbolIn (show w + i < 12 by omega)]
    by_cases c : χ 2 (u + i) = χ 2 (w + i)
    · rw [if_pos c]
      rcases ih (i + 1) m (by omega) (by omega) with ⟨h1, h2⟩ | ⟨h1, h2⟩
      · left
        refine ⟨fun k k1 k2 => ?_, h2⟩
        by_cases e : k = i
        · rw [e]; exact c
        · exact h1 k (by omega) k2
      · right
        exact ⟨fun h => h1 (fun k k1 k2 => h k (by omega) k2), h2⟩
    · rw [if_neg c]
      right
      exact ⟨fun h => c (h i (Nat.le_refl _) (by omega)), rfl⟩
theorem p_same {N : Nat} (hN : 13 ≤ N) {χ : Nat → Nat → Int32} {u w n : Nat} (hu : u + n ≤ 12) (hw : w + n ≤ 12) : (sgl (χ 2) u n = sgl (χ 2) w n ∧ m_Ch_hasSameSymbols N χ (nI u) (nI w) (nI n) = some 1) ∨ (sgl (χ 2) u n ≠ sgl (χ 2) w n ∧ m_Ch_hasSameSymbols N χ (nI u) (nI w) (nI n) = some 0) := by
  rcases p_same_l (N := N) (χ := χ) hu hw n 0 N (by omega) (by omega) with ⟨h1, h2⟩ | ⟨h1, h2⟩
  · left
    exact ⟨(sgl_eq n u w).mpr (fun k hk => h1 k (by omega) hk), h2⟩
  · right
    exact ⟨fun e => h1 (fun k _ hk => (sgl_eq n u w).mp e k hk), h2⟩
theorem take_snoc {l : List Int32} {k : Nat} (h : k < l.length) : l.take (k + 1) = l.take k ++ [l.getD k 0] := by
  rw [List.getD_eq_getElem?_getD, List.getElem?_eq_getElem h]
  exact List.take_succ_eq_append_getElem h
theorem drop_getD {l : List Int32} {k : Nat} (h : k < l.length) : l.drop k = l.getD k 0 :: l.drop (k + 1) := by
  rw [List.getD_eq_getElem?_getD, List.getElem?_eq_getElem h]
  exact List.drop_eq_getElem_cons h
/-- how many different variables the first k symbols have -/
def bd (l : List Int32) (k : Nat) : Nat := (dvs [] (l.take k)).length
theorem bd_pre (l : List Int32) (k : Nat) : ∃ t, dv l = dvs [] (l.take k) ++ t := by
  unfold dv
  have := dvs_app (l.take k) (l.drop k) []
  rw [List.take_append_drop] at this
  rw [this]
  exact dvs_pre _ _
theorem bd_full (l : List Int32) : bd l l.length = (dv l).length := by
  unfold bd dv
  rw [List.take_length]
theorem bd_le (l : List Int32) (k : Nat) : bd l k ≤ (dv l).length := by
  obtain ⟨t, ht⟩ := bd_pre l k
  rw [ht]
  simp [bd]
theorem idx_app {l t : List Int32} {x : Int32} (h : x ∈ l) : (l ++ t).idxOf x = l.idxOf x := by
  rw [List.idxOf_append, if_pos h]
theorem idx_new {l t : List Int32} {x : Int32} (h : x ∉ l) : (l ++ (x :: t)).idxOf x = l.length := by
  rw [List.idxOf_append, if_neg h]
  simp
theorem idx_known {l : List Int32} {k : Nat} {x : Int32} (h : x ∈ dvs [] (l.take k)) : (dv l).idxOf x < bd l k := by
  obtain ⟨t, ht⟩ := bd_pre l k
  rw [ht, idx_app h]
  exact List.idxOf_lt_length_of_mem h
theorem bd_same {l : List Int32} {k : Nat} (hk : k < l.length) (h : ¬ (l.getD k 0 < 0 ∧ l.getD k 0 ∉ dvs [] (l.take k))) : bd l (k + 1) = bd l k := by
  unfold bd
  rw [take_snoc hk, dvs_app]
  show List.length (if l.getD k 0 < 0 ∧ l.getD k 0 ∉ dvs [] (l.take k) then _ else _) = _
  rw [if_neg h]
  rfl
theorem bd_new {l : List Int32} {k : Nat} (hk : k < l.length) (h : l.getD k 0 < 0 ∧ l.getD k 0 ∉ dvs [] (l.take k)) : bd l (k + 1) = bd l k + 1 ∧ (dv l).idxOf (l.getD k 0) = bd l k := by
  have e : dvs [] (l.take (k + 1)) = dvs [] (l.take k) ++ [l.getD k 0] := by
    rw [take_snoc hk, dvs_app]
    show (if l.getD k 0 < 0 ∧ l.getD k 0 ∉ dvs [] (l.take k) then _ else _) = _
    rw [if_pos h]
    rfl
  refine ⟨by unfold bd; rw [e]; simp, ?_⟩
  obtain ⟨t, ht⟩ := bd_pre l (k + 1)
  rw [ht, e, List.append_assoc]
  exact idx_new h.2
theorem asg_idx : ∀ (xs : List Int32) (gs : List (List Int32)) (x : Int32), gs.length = xs.length → x ∈ xs → asg xs gs x = gs.getD (xs.idxOf x) []
  | [], _, _, _, h => by simp at h
  | _ :: _, [], _, h, _ => by simp at h
  | y :: ys, g :: gs, x, h, k => by
    show (if x = y then g else asg ys gs x) = _
    by_cases c : x = y
    · subst c
      rw [if_pos rfl, List.idxOf_cons_self]
      rfl
    · rw [if_neg c, asg_idx ys gs x (by simpa using h) (by simpa [c] using k)]
      have : (y :: ys).idxOf x = ys.idxOf x + 1 := by
        rw [List.idxOf_cons]
        have q : (y == x) = false := by
          rw [beq_eq_false_iff_ne]; exact fun e => c e.symm
        rw [q]
        rfl
      rw [this]
      rfl
/-- the variables' values that the spans give -/
def vf (a : Nat → Int32) (l : List Int32) (f t : Nat → Nat) (x : Int32) : List Int32 := sg a (f ((dv l).idxOf x)) (t ((dv l).idxOf x))
/-- the trees by rule r whose first bd parts are as the spans say -/
def Wf (G : Gm) (r : Nat) (a : Nat → Int32) (i j b : Nat) (f t : Nat → Nat) (e : List Int32) : Prop :=
  ∃ gs d, Spl (gry G r) (sg a i j) gs ∧ (∀ q, q < b → gs.getD q [] = sg a (f q) (t q)) ∧ Pr G (dv (gry G r)) gs d ∧ e = nI r :: d
/-- what is left for the symbols from k on -/
theorem fit_rest {a : Nat → Int32} {l : List Int32} {i j k at_ : Nat} {f t : Nat → Nat} (hi : i ≤ at_) (hj : at_ ≤ j) (hc : sg a i at_ = (l.take k).flatMap (sub (vf a l f t))) {gs : List (List Int32)} (hs : Spl l (sg a i j) gs) (hg : ∀ q, q < bd l k → gs.getD q [] = sg a (f q) (t q)) : sg a at_ j = (l.drop k).flatMap (sub (asg (dv l) gs)) := by
  have e1 : (l.take k).flatMap (sub (asg (dv l) gs)) = sg a i at_ := by
    rw [hc]
    apply fm_congr
    intro x hx
    unfold sub
    by_cases c : x < 0
    · rw [if_pos c, if_pos c]
      have hm : x ∈ dvs [] (l.take k) := (dvs_mem _ _ _).mpr (Or.inr ⟨hx, c⟩)
      have hd : x ∈ dv l := dv_mem.mpr ⟨List.mem_of_mem_take hx, c⟩
      rw [asg_idx _ _ _ hs.1 hd, hg _ (idx_known hm)]
      rfl
    · rw [if_neg c, if_neg c]
  have e2 := hs.2
  rw [sg_cat a hi hj, ← List.take_append_drop k l] at e2
  rw [List.take_append_drop] at e2
  have e3 : l.flatMap (sub (asg (dv l) gs)) = (l.take k).flatMap (sub (asg (dv l) gs)) ++ (l.drop k).flatMap (sub (asg (dv l) gs)) := by
    rw [← List.flatMap_append, List.take_append_drop]
  rw [e3, e1] at e2
  exact List.append_cancel_left e2
theorem fm_len {g : Int32 → List Int32} : ∀ (l : List Int32), (∀ x, x ∈ l → x < 0 → g x ≠ []) → l.length ≤ (l.flatMap (sub g)).length
  | [], _ => by simp
  | x :: xs, h => by
    have h1 := fm_len xs (fun z hz => h z (List.mem_cons_of_mem _ hz))
    have h2 : 1 ≤ (sub g x).length := by
      unfold sub
      by_cases c : x < 0
      · rw [if_pos c]
        exact List.length_pos_iff.mpr (h x List.mem_cons_self c)
      · rw [if_neg c]; simp
    rw [List.flatMap_cons, List.length_append, List.length_cons]
    omega
theorem asg_ne {l : List Int32} {gs : List (List Int32)} (hl : gs.length = (dv l).length) (hn : ∀ g, g ∈ gs → g ≠ []) (k : Nat) : ∀ x, x ∈ l.drop k → x < 0 → asg (dv l) gs x ≠ [] :=
  fun _ hx c => hn _ (asg_mem _ _ _ hl (dv_mem.mpr ⟨List.mem_of_mem_drop hx, c⟩))
/-- room for the symbols from k on -/
theorem fit_room {a : Nat → Int32} {l : List Int32} {i j k at_ : Nat} {f t : Nat → Nat} (hi : i ≤ at_) (hj : at_ ≤ j) (hc : sg a i at_ = (l.take k).flatMap (sub (vf a l f t))) {gs : List (List Int32)} (hs : Spl l (sg a i j) gs) (hg : ∀ q, q < bd l k → gs.getD q [] = sg a (f q) (t q)) (hn : ∀ g, g ∈ gs → g ≠ []) : (l.length - k) ≤ j - at_ := by
  have e := fit_rest hi hj hc hs hg
  have h1 := fm_len (l.drop k) (asg_ne hs.1 hn k)
  rw [← e, sg_len, List.length_drop] at h1
  exact h1
/-- the next symbol's piece -/
theorem fit_next {a : Nat → Int32} {l : List Int32} {i j k at_ : Nat} {f t : Nat → Nat} (hi : i ≤ at_) (hj : at_ ≤ j) (hk : k < l.length) (hc : sg a i at_ = (l.take k).flatMap (sub (vf a l f t))) {gs : List (List Int32)} (hs : Spl l (sg a i j) gs) (hg : ∀ q, q < bd l k → gs.getD q [] = sg a (f q) (t q)) (hn : ∀ g, g ∈ gs → g ≠ []) :
    ∃ n, 1 ≤ n ∧ at_ + n + (l.length - k - 1) ≤ j ∧ sg a at_ (at_ + n) = sub (asg (dv l) gs) (l.getD k 0) := by
  have e := fit_rest hi hj hc hs hg
  rw [drop_getD hk, List.flatMap_cons] at e
  have h1 := fm_len (l.drop (k + 1)) (asg_ne hs.1 hn (k + 1))
  have h2 : 1 ≤ (sub (asg (dv l) gs) (l.getD k 0)).length := by
    unfold sub
    by_cases c : l.getD k 0 < 0
    · rw [if_pos c]
      exact List.length_pos_iff.mpr (hn _ (asg_mem _ _ _ hs.1 (dv_mem.mpr ⟨getD_mem hk, c⟩)))
    · rw [if_neg c]; simp
  have h3 := congrArg List.length e
  rw [sg_len, List.length_append] at h3
  rw [List.length_drop] at h1
  refine ⟨(sub (asg (dv l) gs) (l.getD k 0)).length, h2, by omega, ?_⟩
  rw [sg_cat a (show at_ ≤ at_ + (sub (asg (dv l) gs) (l.getD k 0)).length by omega) (show at_ + (sub (asg (dv l) gs) (l.getD k 0)).length ≤ j by omega)] at e
  exact (List.append_inj e (by rw [sg_len]; omega)).1
