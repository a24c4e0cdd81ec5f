/-! the class lays out rows: waiting at 0 4, starts in array 2; B: the rows that wait, the oldest first -/
def GwS (ω g : Nat → Nat → Int32) (B : List (List Int32)) : Prop := ω 0 4 = nI B.length ∧ B.length ≤ 12 ∧ SyL 12 g B.flatten ∧ ∀ k, k < B.length → ω 2 k = nI (B.take k).flatten.length
theorem p_joinWaiting_59 {N : Nat} {ω g : Nat → Nat → Int32} {Gl : List Int32} (hg : SyL 12 g Gl) {e : Nat} (he : e ≤ Gl.length) : ∀ (d i f : Nat) (σ : Nat → Nat → Int32) (J : List Int32), i + d = e → d < f → SyL 12 σ J →
    (J.length + d ≤ 12 ∧ ∃ σ', SyL 12 σ' (J ++ (Gl.drop i).take d) ∧ l_Gw_joinWaiting_59 N 12 12 ω g (nI e) (fun s_joined => f_Gw_joinWaiting_82 N 12 12 ω g s_joined) (fun s_joined => f_Gw_joinWaiting_90 N 12 12 ω g s_joined) f σ (nI i) = some (1, σ')) ∨ (12 < J.length + d ∧ ∃ σ', l_Gw_joinWaiting_59 N 12 12 ω g (nI e) (fun s_joined => f_Gw_joinWaiting_82 N 12 12 ω g s_joined) (fun s_joined => f_Gw_joinWaiting_90 N 12 12 ω g s_joined) f σ (nI i) = some (0, σ')) := by
  have hl := hg.2.1
  intro d
  induction d with
  | zero =>
    intro i f σ J hi hf hJ
    obtain ⟨f, rfl⟩ : ∃ m, f = m + 1 := ⟨f - 1, by omega⟩
    have : i = e := by omega
    subst this
    left
    refine ⟨by have := hJ.2.1; omega, σ, by simpa using hJ, ?_⟩
    unfold l_Gw_joinWaiting_59 f_Gw_joinWaiting_59
    rw [if_pos (nI_le (Nat.le_refl _) (by omega))]
    rfl
  | succ d ih =>
    intro i f σ J hi hf hJ
    obtain ⟨f, rfl⟩ : ∃ m, f = m + 1 := ⟨f - 1, by omega⟩
    obtain ⟨X, hX⟩ : ∃ X, X = l_Gw_joinWaiting_59 N 12 12 ω g (nI e) (fun s_joined => f_Gw_joinWaiting_82 N 12 12 ω g s_joined) (fun s_joined => f_Gw_joinWaiting_90 N 12 12 ω g s_joined) (f + 1) σ (nI i) := ⟨_, rfl⟩
    rw [← hX]
    have step : X = f_Gw_joinWaiting_59 N 12 12 (l_Gw_joinWaiting_59 N 12 12 ω g (nI e) (fun s_joined => f_Gw_joinWaiting_82 N 12 12 ω g s_joined) (fun s_joined => f_Gw_joinWaiting_90 N 12 12 ω g s_joined) f) (fun s_joined => f_Gw_joinWaiting_82 N 12 12 ω g s_joined) (fun s_joined => f_Gw_joinWaiting_90 N 12 12 ω g s_joined) ω g σ (nI e) (nI i) := hX
    unfold f_Gw_joinWaiting_59 at step
    rw [if_neg (nI_ge (by omega) (by omega)), hg.at (by omega) (by omega), b1_some] at step
    have hd : (Gl.drop i).take (d + 1) = Gl.getD i 0 :: (Gl.drop (i + 1)).take d := by
      rw [drop_getD (by omega)]
      rfl
    rcases hJ.append (by omega) (Gl.getD i 0) with ⟨c, σ1, a1, a2⟩ | ⟨c, a1⟩
    · rw [a1, b2_some, if_neg (by decide), nm_d, nI_1] at step
      rcases ih (i + 1) f σ1 (J ++ [Gl.getD i 0]) (by omega) (by omega) a2 with ⟨h1, σ', h2, h3⟩ | ⟨h1, σ', h3⟩
      · left
        simp only [List.length_append, List.length_cons, List.length_nil] at h1
        refine ⟨by omega, σ', ?_, by rw [step]; exact h3⟩
        rw [hd]
        simpa using h2
      · right
        simp only [List.length_append, List.length_cons, List.length_nil] at h1
        exact ⟨by omega, σ', by rw [step]; exact h3⟩
    · rw [a1, b2_some, if_pos rfl] at step
      right
      exact ⟨by omega, σ, by rw [step]; rfl⟩
theorem flat_take_succ {B : List (List Int32)} {k : Nat} (h : k < B.length) : (B.take (k + 1)).flatten = (B.take k).flatten ++ B.getD k [] := by
  rw [List.take_succ_eq_append_getElem h, List.flatten_append]
  congr 1
  simp [List.getD_eq_getElem?_getD, h]
theorem flat_mid {B : List (List Int32)} {k : Nat} (h : k < B.length) : (B.flatten.drop (B.take k).flatten.length).take (B.getD k []).length = B.getD k [] := by
  have e : B.flatten = (B.take k).flatten ++ (B.getD k [] ++ (B.drop (k + 1)).flatten) := by
    rw [← List.append_assoc, ← flat_take_succ h, ← List.flatten_append, List.take_append_drop]
  rw [e, List.drop_left, List.take_left]
theorem flat_le {B : List (List Int32)} (k : Nat) : (B.take k).flatten.length ≤ B.flatten.length := by
  have e : B.flatten = (B.take k).flatten ++ (B.drop k).flatten := by rw [← List.flatten_append, List.take_append_drop]
  rw [e, List.length_append]
  omega
theorem p_joinWaiting {N : Nat} (hN : 13 ≤ N) {ω g σ : Nat → Nat → Int32} {B : List (List Int32)} (h : GwS ω g B) {J : List Int32} (hJ : SyL 12 σ J) {k : Nat} (hk : k < B.length) :
    (J.length + (B.getD k []).length ≤ 12 ∧ ∃ σ', SyL 12 σ' (J ++ B.getD k []) ∧ m_Gw_joinWaiting N 12 12 ω g σ (nI k) = some (1, σ')) ∨ (12 < J.length + (B.getD k []).length ∧ ∃ σ', m_Gw_joinWaiting N 12 12 ω g σ (nI k) = some (0, σ')) := by
  obtain ⟨h1, h2, h3, h4⟩ := h
  have hl := h3.2.1
  have e1 := flat_take_succ hk
  have e2 := congrArg List.length e1
  rw [List.length_append] at e2
  have l1 := flat_le (B := B) (k + 1)
  have key := p_joinWaiting_59 (N := N) (ω := ω) h3 (e := (B.take (k + 1)).flatten.length) l1 (B.getD k []).length (B.take k).flatten.length N σ J (by omega) (by omega) hJ
  rw [flat_mid hk] at key
  have run : m_Gw_joinWaiting N 12 12 ω g σ (nI k) = l_Gw_joinWaiting_59 N 12 12 ω g (nI (B.take (k + 1)).flatten.length) (fun s_joined => f_Gw_joinWaiting_82 N 12 12 ω g s_joined) (fun s_joined => f_Gw_joinWaiting_90 N 12 12 ω g s_joined) N σ (nI (B.take k).flatten.length) := by
    unfold m_Gw_joinWaiting f_Gw_joinWaiting_0
    rw [if_neg (nI_pos (by omega)), h1, if_neg (nI_ge hk (by omega)), l_12, if_pos (nI_le h2 (by omega)), n_sub1 (by omega)]
    by_cases c : k = B.length - 1
    · rw [if_pos (by rw [c]), nm_d, h3.1, ck_n (by omega) (by omega), nm_d, nI_clamp (by omega), h4 k hk]
      have : B.take (k + 1) = B := List.take_of_length_le (by omega)
      rw [this]
    · rw [if_neg (fun q => c (nI_inj (by omega) (by omega) q)), nI_1, ck_n (by omega) (by omega), nm_d, nI_clamp (show k + 1 < 2 ^ 31 by omega), h4 (k + 1) (by omega), ck_n (by omega) (by omega), nm_d, nI_clamp (show k < 2 ^ 31 by omega), h4 k hk]
  rw [run]
  exact key
theorem p_joinParts_21 {N : Nat} (hN : 13 ≤ N) {γ ω g : Nat → Nat → Int32} {G : Gm} (hG : GrOK γ G) {r : Nat} (hr : r < gR G) {B : List (List Int32)} (h : GwS ω g B) (hm : (dv (gry G r)).length ≤ B.length) (v2 : Int32) (kx1 : (Nat → Nat → Int32) → Option (Int32 × (Nat → Nat → Int32) × (Nat → Nat → Int32) × (Nat → Nat → Int32))) :
    ∀ (d k f : Nat) (σ : Nat → Nat → Int32), k + d = (gry G r).length → d < f → SyL 12 σ (((gry G r).take k).flatMap (sub (asg (dv (gry G r)) B.reverse))) →
      (((gry G r).flatMap (sub (asg (dv (gry G r)) B.reverse))).length ≤ 12 ∧ ∃ σ', SyL 12 σ' ((gry G r).flatMap (sub (asg (dv (gry G r)) B.reverse))) ∧ l_Gw_joinParts_21 N 12 12 ω γ g (nI r) v2 (fun s_joined => f_Gw_joinParts_89 N 12 12 ω γ g s_joined) kx1 f σ (nI k) = kx1 σ') ∨ (12 < ((gry G r).flatMap (sub (asg (dv (gry G r)) B.reverse))).length ∧ ∃ σ', l_Gw_joinParts_21 N 12 12 ω γ g (nI r) v2 (fun s_joined => f_Gw_joinParts_89 N 12 12 ω γ g s_joined) kx1 f σ (nI k) = some (0, ω, g, σ')) := by
  have hR := hG.1.2.2.1
  have h8 := (hG.1.2.2.2.2 r hr).2.2.1
  have h4 := dv_le4 hG.1 hr
  have hB12 := h.2.1
  intro d
  induction d with
  | zero =>
    intro k f σ hk hf hJ
    obtain ⟨f, rfl⟩ : ∃ m, f = m + 1 := ⟨f - 1, by omega⟩
    have : k = (gry G r).length := by omega
    subst this
    rw [List.take_length] at hJ
    left
    refine ⟨hJ.2.1, σ, hJ, ?_⟩
    unfold l_Gw_joinParts_21 f_Gw_joinParts_21
    rw [g_len hG hr, b1_some, if_pos (nI_le (Nat.le_refl _) (by omega))]
  | succ d ih =>
    intro k f σ hk hf hJ
    obtain ⟨f, rfl⟩ : ∃ m, f = m + 1 := ⟨f - 1, by omega⟩
    have hkl : k < (gry G r).length := by omega
    obtain ⟨X, hX⟩ : ∃ X, X = l_Gw_joinParts_21 N 12 12 ω γ g (nI r) v2 (fun s_joined => f_Gw_joinParts_89 N 12 12 ω γ g s_joined) kx1 (f + 1) σ (nI k) := ⟨_, rfl⟩
    rw [← hX]
    have step : X = f_Gw_joinParts_21 N 12 12 (l_Gw_joinParts_21 N 12 12 ω γ g (nI r) v2 (fun s_joined => f_Gw_joinParts_89 N 12 12 ω γ g s_joined) kx1 f) (fun s_joined => f_Gw_joinParts_89 N 12 12 ω γ g s_joined) kx1 ω γ g σ (nI r) v2 (nI k) := hX
    unfold f_Gw_joinParts_21 at step
    rw [g_len hG hr, b1_some, if_neg (nI_ge hkl (by omega)), g_slotAt hG hr hkl, b1_some] at step
    have hts : ((gry G r).take (k + 1)).flatMap (sub (asg (dv (gry G r)) B.reverse)) = ((gry G r).take k).flatMap (sub (asg (dv (gry G r)) B.reverse)) ++ sub (asg (dv (gry G r)) B.reverse) ((gry G r).getD k 0) := by
      rw [take_snoc hkl, List.flatMap_append]
      simp
    have htot : (((gry G r).take (k + 1)).flatMap (sub (asg (dv (gry G r)) B.reverse))).length ≤ ((gry G r).flatMap (sub (asg (dv (gry G r)) B.reverse))).length := by
      have e : (gry G r).flatMap (sub (asg (dv (gry G r)) B.reverse)) = ((gry G r).take (k + 1)).flatMap (sub (asg (dv (gry G r)) B.reverse)) ++ ((gry G r).drop (k + 1)).flatMap (sub (asg (dv (gry G r)) B.reverse)) := by
        rw [← List.flatMap_append, List.take_append_drop]
      rw [e, List.length_append]
      omega
    rw [hts, List.length_append] at htot
    -- on with a longer row
    have goOn : ∀ σ1, SyL 12 σ1 (((gry G r).take k).flatMap (sub (asg (dv (gry G r)) B.reverse)) ++ sub (asg (dv (gry G r)) B.reverse) ((gry G r).getD k 0)) → X = l_Gw_joinParts_21 N 12 12 ω γ g (nI r) v2 (fun s_joined => f_Gw_joinParts_89 N 12 12 ω γ g s_joined) kx1 f σ1 (nI (k + 1)) → (((gry G r).flatMap (sub (asg (dv (gry G r)) B.reverse))).length ≤ 12 ∧ ∃ σ', SyL 12 σ' ((gry G r).flatMap (sub (asg (dv (gry G r)) B.reverse))) ∧ X = kx1 σ') ∨ (12 < ((gry G r).flatMap (sub (asg (dv (gry G r)) B.reverse))).length ∧ ∃ σ', X = some (0, ω, g, σ')) := by
      intro σ1 h1 h2
      rw [h2]
      exact ih (k + 1) f σ1 (by omega) (by omega) (by rw [hts]; exact h1)
    by_cases neg : (gry G r).getD k 0 < 0
    · have hidx := dv_lt hkl neg
      have hxd : (gry G r).getD k 0 ∈ dv (gry G r) := dv_mem.mpr ⟨getD_mem hkl, neg⟩
      have hval : sub (asg (dv (gry G r)) B.reverse) ((gry G r).getD k 0) = B.getD (B.length - 1 - (dv (gry G r)).idxOf ((gry G r).getD k 0)) [] := by
        unfold sub
        rw [if_pos neg]
        have e1 := (asg_take (dv (gry G r)) B.reverse _ hxd (by simpa using hm)).2
        rw [← e1, asg_idx _ _ _ (by simp; omega) hxd]
        generalize (dv (gry G r)).idxOf ((gry G r).getD k 0) = q at hidx
        rw [List.getD_eq_getElem?_getD, List.getD_eq_getElem?_getD, List.getElem?_take, if_pos hidx, List.getElem?_reverse (by omega)]
      rw [if_pos neg, if_neg (of_eq_false (c_m1 (by omega))), h.1, n_sub1 (by omega), n_sub (by omega)] at step
      rw [hval] at htot goOn
      rcases p_joinWaiting hN h hJ (k := B.length - 1 - (dv (gry G r)).idxOf ((gry G r).getD k 0)) (by omega) with ⟨c1, σ1, a1, a2⟩ | ⟨c1, σ1, a2⟩
      · rw [a2, b2_some, if_neg (by decide), nm_d, nI_1] at step
        exact goOn σ1 a1 step
      · rw [a2, b2_some, if_pos rfl] at step
        right
        exact ⟨by omega, σ1, by rw [step]; rfl⟩
    · have hval : sub (asg (dv (gry G r)) B.reverse) ((gry G r).getD k 0) = [(gry G r).getD k 0] := by
        unfold sub
        rw [if_neg neg]
      rw [if_neg neg, if_pos rfl, g_sym hG hr hkl, b1_some] at step
      rw [hval] at htot goOn
      rcases hJ.append (by omega) ((gry G r).getD k 0) with ⟨c, σ1, a1, a2⟩ | ⟨c, a1⟩
      · rw [a1, b2_some, if_neg (by decide), nm_d, nI_1] at step
        exact goOn σ1 a2 step
      · rw [a1, b2_some, if_pos rfl] at step
        right
        simp only [List.length_cons, List.length_nil] at htot
        exact ⟨by omega, σ, by rw [step]; rfl⟩
theorem p_joinParts {N : Nat} (hN : 13 ≤ N) {γ ω g σ : Nat → Nat → Int32} {G : Gm} (hG : GrOK γ G) {r : Nat} (hr : r < gR G) {B : List (List Int32)} (h : GwS ω g B) (hm : (dv (gry G r)).length ≤ B.length) :
    (((gry G r).flatMap (sub (asg (dv (gry G r)) B.reverse))).length ≤ 12 ∧ ∃ ω' g' σ', SyL 12 σ' ((gry G r).flatMap (sub (asg (dv (gry G r)) B.reverse))) ∧ GwS ω' g' (B.take (B.length - (dv (gry G r)).length)) ∧ ω' 0 6 = ω 0 6 ∧ m_Gw_joinParts N 12 12 ω γ g (st2 σ 0 1 0) (nI r) = some (1, ω', g', σ')) ∨ (12 < ((gry G r).flatMap (sub (asg (dv (gry G r)) B.reverse))).length ∧ ∃ σ', m_Gw_joinParts N 12 12 ω γ g (st2 σ 0 1 0) (nI r) = some (0, ω, g, σ')) := by
  have h4 := dv_le4 hG.1 hr
  have h8 := (hG.1.2.2.2.2 r hr).2.2.1
  have hB12 := h.2.1
  have key := p_joinParts_21 hN hG hr h hm (nI (dv (gry G r)).length) (fun s_joined => f_Gw_joinParts_97 N 12 12 ω γ g s_joined (nI (dv (gry G r)).length)) (gry G r).length 0 N (st2 σ 0 1 0) (by omega) (by omega) (by rw [List.take_zero]; exact SyL.nil _ _)
  have run : m_Gw_joinParts N 12 12 ω γ g (st2 σ 0 1 0) (nI r) = l_Gw_joinParts_21 N 12 12 ω γ g (nI r) (nI (dv (gry G r)).length) (fun s_joined => f_Gw_joinParts_89 N 12 12 ω γ g s_joined) (fun s_joined => f_Gw_joinParts_97 N 12 12 ω γ g s_joined (nI (dv (gry G r)).length)) N (st2 σ 0 1 0) (nI 0) := by
    unfold m_Gw_joinParts f_Gw_joinParts_0
    rw [g_slots hG hr, b1_some, h.1, if_pos (nI_le hm (by omega)), nI_0]
  rw [run]
  rcases key with ⟨k1, σ', k2, k3⟩ | ⟨k1, σ', k3⟩
  · left
    refine ⟨k1, ?_⟩
    rw [k3]
    unfold f_Gw_joinParts_97
    by_cases z : (dv (gry G r)).length = 0
    · rw [if_pos (of_eq_true (c_le0_t z))]
      refine ⟨ω, g, σ', k2, ?_, rfl, rfl⟩
      rw [z, Nat.sub_zero, List.take_length]
      exact h
    · rw [if_neg (of_eq_false (c_le0 (by omega) (by omega))), nm_d, h.1, n_sub hm, st2_s, ck_n (by omega) (by omega), nm_d, nI_clamp (by omega), st2_aj _ _ _ _ (by decide), h.2.2.2 _ (by omega)]
      have hlt : (B.take (B.length - (dv (gry G r)).length)).length = B.length - (dv (gry G r)).length := by rw [List.length_take]; omega
      have hfl := flat_le (B := B) (B.length - (dv (gry G r)).length)
      refine ⟨_, _, σ', k2, ⟨by rw [st2_s, hlt], by omega, ⟨st2_s _ _ _ _, by have := h.2.2.1.2.1; omega, fun k hk => ?_⟩, fun k hk => ?_⟩, by rw [st2_k _ _ _ (by decide)], rfl⟩
      · rw [st2_aj _ _ _ _ (by decide), h.2.2.1.2.2 k (by omega)]
        have e : B.flatten = (B.take (B.length - (dv (gry G r)).length)).flatten ++ (B.drop (B.length - (dv (gry G r)).length)).flatten := by rw [← List.flatten_append, List.take_append_drop]
        rw [e, getD_snoc_lt hk]
      · rw [hlt] at hk
        rw [st2_aj _ _ _ _ (by decide), h.2.2.2 k (by omega), List.take_take, Nat.min_eq_left (by omega)]
  · right
    exact ⟨k1, σ', k3⟩
theorem p_keepJoined_39 {N : Nat} {ω σ : Nat → Nat → Int32} {J : List Int32} (hJ : SyL 12 σ J) : ∀ (d k f : Nat) (g : Nat → Nat → Int32) (Gl : List Int32), k + d = J.length → d < f → SyL 12 g (Gl ++ J.take k) →
    (Gl.length + J.length ≤ 12 ∧ ∃ g', SyL 12 g' (Gl ++ J) ∧ l_Gw_keepJoined_39 N 12 12 ω σ (fun s_grown => f_Gw_keepJoined_68 N 12 12 ω s_grown σ) (fun s_grown => f_Gw_keepJoined_76 N 12 12 ω s_grown σ) f g (nI k) = some (1, ω, g')) ∨ (12 < Gl.length + J.length ∧ ∃ g', l_Gw_keepJoined_39 N 12 12 ω σ (fun s_grown => f_Gw_keepJoined_68 N 12 12 ω s_grown σ) (fun s_grown => f_Gw_keepJoined_76 N 12 12 ω s_grown σ) f g (nI k) = some (0, ω, g')) := by
  have hl := hJ.2.1
  intro d
  induction d with
  | zero =>
    intro k f g Gl hk hf hg
    obtain ⟨f, rfl⟩ : ∃ m, f = m + 1 := ⟨f - 1, by omega⟩
    have : k = J.length := by omega
    subst this
    rw [List.take_length] at hg
    left
    have := hg.2.1
    rw [List.length_append] at this
    refine ⟨this, g, hg, ?_⟩
    unfold l_Gw_keepJoined_39 f_Gw_keepJoined_39
    rw [hJ.1, if_pos (nI_le (Nat.le_refl _) (by omega))]
    rfl
  | succ d ih =>
    intro k f g Gl hk hf hg
    obtain ⟨f, rfl⟩ : ∃ m, f = m + 1 := ⟨f - 1, by omega⟩
    obtain ⟨X, hX⟩ : ∃ X, X = l_Gw_keepJoined_39 N 12 12 ω σ (fun s_grown => f_Gw_keepJoined_68 N 12 12 ω s_grown σ) (fun s_grown => f_Gw_keepJoined_76 N 12 12 ω s_grown σ) (f + 1) g (nI k) := ⟨_, rfl⟩
    rw [← hX]
    have step : X = f_Gw_keepJoined_39 N 12 12 (l_Gw_keepJoined_39 N 12 12 ω σ (fun s_grown => f_Gw_keepJoined_68 N 12 12 ω s_grown σ) (fun s_grown => f_Gw_keepJoined_76 N 12 12 ω s_grown σ) f) (fun s_grown => f_Gw_keepJoined_68 N 12 12 ω s_grown σ) (fun s_grown => f_Gw_keepJoined_76 N 12 12 ω s_grown σ) ω g σ (nI k) := hX
    unfold f_Gw_keepJoined_39 at step
    rw [hJ.1, if_neg (nI_ge (by omega) (by omega)), hJ.at (by omega) (by omega), b1_some] at step
    rcases hg.append (by omega) (J.getD k 0) with ⟨c, g1, a1, a2⟩ | ⟨c, a1⟩
    · rw [a1, b2_some, if_neg (by decide), nm_d, nI_1] at step
      rw [step]
      refine ih (k + 1) f g1 Gl (by omega) (by omega) ?_
      rw [take_snoc (by omega), ← List.append_assoc]
      exact a2
    · rw [a1, b2_some, if_pos rfl] at step
      right
      rw [List.length_append, List.length_take] at c
      exact ⟨by omega, g, by rw [step]; rfl⟩
theorem p_keepJoined {N : Nat} (hN : 13 ≤ N) {ω g σ : Nat → Nat → Int32} {B : List (List Int32)} (h : GwS ω g B) (hne : ∀ y, y ∈ B → y ≠ []) {J : List Int32} (hJ : SyL 12 σ J) (hJn : J ≠ []) :
    ((B ++ [J]).flatten.length ≤ 12 ∧ ∃ ω' g', GwS ω' g' (B ++ [J]) ∧ ω' 0 6 = ω 0 6 ∧ m_Gw_keepJoined N 12 12 ω g σ = some (1, ω', g')) ∨ (12 < (B ++ [J]).flatten.length ∧ ∃ ω' g', ω' 0 6 = ω 0 6 ∧ m_Gw_keepJoined N 12 12 ω g σ = some (0, ω', g')) := by
  have hl := hJ.2.1
  have hB12 := h.2.1
  have hfl : (B ++ [J]).flatten.length = B.flatten.length + J.length := by simp
  have hJ1 : 1 ≤ J.length := List.length_pos_iff.mpr hJn
  have hcnt : B.length ≤ B.flatten.length := by
    have key : ∀ (L : List (List Int32)), (∀ y, y ∈ L → y ≠ []) → L.length ≤ L.flatten.length := by
      intro L
      induction L with
      | nil => intro _; simp
      | cons z zs ih =>
        intro hz
        have h1 : 1 ≤ z.length := List.length_pos_iff.mpr (hz z (by simp))
        have h2 := ih (fun y hy => hz y (by simp [hy]))
        simp only [List.length_cons, List.flatten_cons, List.length_append]
        omega
    exact key B hne
  unfold m_Gw_keepJoined f_Gw_keepJoined_0
  rw [h.1, l_12]
  by_cases c : B.length < 12
  · rw [if_pos (of_eq_true (c_lt_t c (by omega))), ck_n c (by omega), nm_d, nI_clamp (by omega), nm_d, st2_aj _ _ _ _ (by decide), h.1, nI_1, h.2.2.1.1]
    have key := p_keepJoined_39 (N := N) (ω := st2 (st2 ω 2 B.length (nI B.flatten.length)) 0 4 (nI (B.length + 1))) hJ J.length 0 N g B.flatten (by omega) (by omega) (by simpa using h.2.2.1)
    rw [nI_0] at key
    rcases key with ⟨k1, g', k2, k3⟩ | ⟨k1, g', k3⟩
    · left
      refine ⟨by omega, _, g', ⟨by rw [st2_s]; simp, by simp; omega, by simpa using k2, fun k hk => ?_⟩, by rw [st2_k _ _ _ (by decide), st2_aj _ _ _ _ (by decide)], k3⟩
      simp only [List.length_append, List.length_cons, List.length_nil] at hk
      rw [st2_aj _ _ _ _ (by decide), List.take_append_of_le_length (by omega)]
      by_cases e : k = B.length
      · subst e
        rw [st2_s, List.take_length]
      · rw [st2_k _ _ _ e]
        exact h.2.2.2 k (by omega)
    · right
      exact ⟨by omega, _, g', by rw [st2_k _ _ _ (by decide), st2_aj _ _ _ _ (by decide)], k3⟩
  · rw [if_neg (of_eq_false (c_lt_f (by omega) (by omega)))]
    right
    exact ⟨by omega, ω, g, rfl, rfl⟩
