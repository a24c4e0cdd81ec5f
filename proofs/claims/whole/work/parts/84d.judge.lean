theorem Vld_drop {G : Gm} : ∀ (m : Nat) {cs : List Int32}, Vld G cs → Vld G (cs.drop m)
  | 0, _, h => by rw [List.drop_zero]; exact h
  | m + 1, [], _ => by simp [Vld]
  | m + 1, c :: cs, h => by
    rw [List.drop_succ_cons]
    exact Vld_drop m h.1
theorem p_layOut_20 {N n : Nat} (hN : 13 ≤ N) (hn : n ≤ 200) {γ π : Nat → Nat → Int32} {G : Gm} (hG : GrOK γ G) {cs : List Int32} (hp : SyL n π cs) (hv : Vld G cs) :
    ∀ (m f : Nat) (ω g σ : Nat → Nat → Int32), m ≤ cs.length → m < f → GwS ω g (yv G (cs.drop m)).reverse →
      ((yv G cs).flatten.length ≤ 12 ∧ ∃ ω' g' σ', GwS ω' g' (yv G cs).reverse ∧ ω' 0 6 = ω 0 6 ∧ l_Gw_layOut_20 N 12 12 n γ π (fun s_self s_grown s_joined => f_Gw_layOut_62 N 12 12 n s_self γ s_grown s_joined π) (fun s_self s_grown s_joined => f_Gw_layOut_71 N 12 12 n s_self γ s_grown s_joined π) (fun s_self s_grown s_joined => f_Gw_layOut_79 N 12 12 n s_self γ s_grown s_joined π) f ω g σ (dn m) = some (1, ω', g', σ')) ∨ (12 < (yv G cs).flatten.length ∧ ∃ ω' g' σ', ω' 0 6 = ω 0 6 ∧ l_Gw_layOut_20 N 12 12 n γ π (fun s_self s_grown s_joined => f_Gw_layOut_62 N 12 12 n s_self γ s_grown s_joined π) (fun s_self s_grown s_joined => f_Gw_layOut_71 N 12 12 n s_self γ s_grown s_joined π) (fun s_self s_grown s_joined => f_Gw_layOut_79 N 12 12 n s_self γ s_grown s_joined π) f ω g σ (dn m) = some (0, ω', g', σ')) := by
  have hl := hp.2.1
  have hR := hG.1.2.2.1
  have hV := hG.1.2.1
  have flr : ∀ Y : List (List Int32), Y.reverse.flatten.length = Y.flatten.length := by
    intro Y
    induction Y with
    | nil => rfl
    | cons y ys ih =>
      rw [List.reverse_cons, List.flatten_append, List.length_append, ih]
      simp
      omega
  intro m
  induction m with
  | zero =>
    intro f ω g σ hm hf hS
    obtain ⟨f, rfl⟩ : ∃ m, f = m + 1 := ⟨f - 1, by omega⟩
    rw [List.drop_zero] at hS
    left
    refine ⟨by have := hS.2.2.1.2.1; rw [flr] at this; exact this, ω, g, σ, hS, rfl, ?_⟩
    unfold l_Gw_layOut_20 f_Gw_layOut_20
    rw [if_pos (of_eq_true dn_neg)]
    rfl
  | succ m ih =>
    intro f ω g σ hm hf hS
    obtain ⟨f, rfl⟩ : ∃ m, f = m + 1 := ⟨f - 1, by omega⟩
    have hml : m < cs.length := by omega
    have hdr : cs.drop m = cs.getD m 0 :: cs.drop (m + 1) := drop_getD hml
    have hvm : Vld G (cs.getD m 0 :: cs.drop (m + 1)) := by
      rw [← hdr]
      exact Vld_drop m hv
    have hne := Vld.ne hG.1 hvm.1
    obtain ⟨X, hX⟩ : ∃ X, X = l_Gw_layOut_20 N 12 12 n γ π (fun s_self s_grown s_joined => f_Gw_layOut_62 N 12 12 n s_self γ s_grown s_joined π) (fun s_self s_grown s_joined => f_Gw_layOut_71 N 12 12 n s_self γ s_grown s_joined π) (fun s_self s_grown s_joined => f_Gw_layOut_79 N 12 12 n s_self γ s_grown s_joined π) (f + 1) ω g σ (dn (m + 1)) := ⟨_, rfl⟩
    rw [← hX]
    have step : X = f_Gw_layOut_20 N 12 12 n (l_Gw_layOut_20 N 12 12 n γ π (fun s_self s_grown s_joined => f_Gw_layOut_62 N 12 12 n s_self γ s_grown s_joined π) (fun s_self s_grown s_joined => f_Gw_layOut_71 N 12 12 n s_self γ s_grown s_joined π) (fun s_self s_grown s_joined => f_Gw_layOut_79 N 12 12 n s_self γ s_grown s_joined π) f) (fun s_self s_grown s_joined => f_Gw_layOut_62 N 12 12 n s_self γ s_grown s_joined π) (fun s_self s_grown s_joined => f_Gw_layOut_71 N 12 12 n s_self γ s_grown s_joined π) (fun s_self s_grown s_joined => f_Gw_layOut_79 N 12 12 n s_self γ s_grown s_joined π) ω γ g σ π (dn (m + 1)) := hX
    unfold f_Gw_layOut_20 at step
    rw [dn_s, if_neg (nI_pos (by omega)), hp.at (by omega) hml, b1_some, p_empty, b2_some] at step
    -- too many now are too many in the end
    have many : 12 < (yv G (cs.drop m)).flatten.length → 12 < (yv G cs).flatten.length := by
      intro h
      have := tot_drop hG.1 m hv
      omega
    have goOn : ∀ ω1 g1 σ1, ω1 0 6 = ω 0 6 → GwS ω1 g1 (yv G (cs.drop m)).reverse → X = l_Gw_layOut_20 N 12 12 n γ π (fun s_self s_grown s_joined => f_Gw_layOut_62 N 12 12 n s_self γ s_grown s_joined π) (fun s_self s_grown s_joined => f_Gw_layOut_71 N 12 12 n s_self γ s_grown s_joined π) (fun s_self s_grown s_joined => f_Gw_layOut_79 N 12 12 n s_self γ s_grown s_joined π) f ω1 g1 σ1 (dn m) → ((yv G cs).flatten.length ≤ 12 ∧ ∃ ω' g' σ', GwS ω' g' (yv G cs).reverse ∧ ω' 0 6 = ω 0 6 ∧ X = some (1, ω', g', σ')) ∨ (12 < (yv G cs).flatten.length ∧ ∃ ω' g' σ', ω' 0 6 = ω 0 6 ∧ X = some (0, ω', g', σ')) := by
      intro ω1 g1 σ1 h6 h1 h2
      rw [h2, ← h6]
      exact ih f ω1 g1 σ1 (by omega) (by omega) h1
    have hrev : ∀ y, y ∈ (yv G (cs.drop (m + 1))).reverse → y ≠ [] := fun y hy => hne y (List.mem_reverse.mp hy)
    rcases hvm.2.1 with ⟨r, hr, er⟩ | ⟨v, hvv, er⟩
    · rw [er, if_pos (nI_pos' (by omega))] at step
      have k3 := hvm.2.2
      rw [er, sl_r (by omega), List.length_map] at k3
      have eY : yv G (cs.drop m) = ((gry G r).flatMap (sub (asg (dv (gry G r)) (yv G (cs.drop (m + 1)))))) :: (yv G (cs.drop (m + 1))).drop (dv (gry G r)).length := by rw [hdr, er, yv_r (by omega)]
      have eB : (yv G (cs.drop m)).reverse = (yv G (cs.drop (m + 1))).reverse.take ((yv G (cs.drop (m + 1))).reverse.length - (dv (gry G r)).length) ++ [(gry G r).flatMap (sub (asg (dv (gry G r)) (yv G (cs.drop (m + 1)))))] := by
        rw [eY, List.reverse_cons, List.take_reverse, List.length_reverse]
        congr 3
        omega
      have hJn : (gry G r).flatMap (sub (asg (dv (gry G r)) (yv G (cs.drop (m + 1))))) ≠ [] := by
        refine Vld.ne hG.1 hvm _ ?_
        rw [← hdr, eY]
        exact List.mem_cons_self
      rcases p_joinParts (σ := σ) hN hG hr hS (by rw [List.length_reverse]; exact k3) with ⟨a1, ω1, g1, σ1, a2, a3, a4, a5⟩ | ⟨a1, σ1, a5⟩
      · rw [a5, b4_some, if_neg (by decide)] at step
        rw [List.reverse_reverse] at a2
        rcases p_keepJoined hN a3 (fun y hy => hrev y (List.mem_of_mem_take hy)) a2 hJn with ⟨b1, ω2, g2, b2, b3, b4⟩ | ⟨b1, ω2, g2, b3, b4⟩
        · rw [b4, b3_some, if_neg (by decide), nm_d, dn_m] at step
          exact goOn ω2 g2 σ1 (by rw [b3, a4]) (by rw [eB]; exact b2) step
        · rw [b4, b3_some, if_pos rfl] at step
          right
          refine ⟨many ?_, ω2, g2, σ1, by rw [b3, a4], by rw [step]; rfl⟩
          rw [← flr, eB]
          exact b1
      · rw [a5, b4_some, if_pos rfl] at step
        rw [List.reverse_reverse] at a1
        right
        refine ⟨many ?_, ω, g, σ1, rfl, by rw [step]; rfl⟩
        rw [eY, List.flatten_cons, List.length_append]
        omega
    · have hneg : vS v < 0 := vS_neg (by omega)
      rw [er, if_neg (Int32.not_le.mpr hneg)] at step
      have eB : (yv G (cs.drop m)).reverse = (yv G (cs.drop (m + 1))).reverse ++ [[vS v]] := by
        rw [hdr, er, yv_n hneg, List.reverse_cons]
      obtain ⟨_, σ1, c1, c2⟩ := ((SyL.nil 12 σ).append (by omega) (vS v)).resolve_right (fun h => by simp at h)
      rw [c1, b2_some] at step
      rw [List.nil_append] at c2
      rcases p_keepJoined hN hS hrev c2 (by simp) with ⟨b1, ω2, g2, b2, b3, b4⟩ | ⟨b1, ω2, g2, b3, b4⟩
      · rw [b4, b3_some, if_neg (by decide), nm_d, dn_m] at step
        exact goOn ω2 g2 σ1 b3 (by rw [eB]; exact b2) step
      · rw [b4, b3_some, if_pos rfl] at step
        right
        refine ⟨many ?_, ω2, g2, σ1, b3, by rw [step]; rfl⟩
        rw [← flr, eB]
        exact b1
/-- the class's verdict -/
theorem p_judge {N n : Nat} (hN : 201 ≤ N) (hn : n ≤ 200) {γ π ω g σ : Nat → Nat → Int32} {G : Gm} (hG : GrOK γ G) {cs : List Int32} (hp : SyL n π cs) {s : Nat} (hs : s < 6) :
    (∃ v pl ω', rdr G cs 0 [s] v pl ∧ v ≠ 0 ∧ ω' 0 6 = nI pl ∧ m_Gw_judge N 12 12 n ω γ g σ π (nI s) = some (nI v, ω', g, σ)) ∨
    (∃ pl y ω' g' σ', rdr G cs 0 [s] 0 pl ∧ yv G cs = [y] ∧ ω' 0 6 = -1 ∧ ((y.length ≤ 12 ∧ SyL 12 g' y ∧ m_Gw_judge N 12 12 n ω γ g σ π (nI s) = some (0, ω', g', σ')) ∨ (12 < y.length ∧ m_Gw_judge N 12 12 n ω γ g σ π (nI s) = some (5, ω', g', σ')))) := by
  obtain ⟨ω1, v, pl, r1, r2, r3⟩ := p_readCodes (ω := ω) hN hn hG hp hs
  have hv4 := (rdr_le r1).1
  have hl := hp.2.1
  unfold m_Gw_judge f_Gw_judge_0
  rw [r3, b2_some]
  by_cases z : v = 0
  · right
    subst z
    obtain ⟨v1, v2⟩ := rdr_vld hG.1 r1
    obtain ⟨y, ey⟩ : ∃ y, yv G cs = [y] := List.length_eq_one_iff.mp v2
    have start : GwS (st2 (st2 ω1 0 6 (-1)) 0 4 0) (st2 g 0 1 0) (yv G (cs.drop cs.length)).reverse := by
      rw [List.drop_length]
      exact ⟨by rw [st2_s]; rfl, by simp [yv], SyL.nil 12 g, fun k hk => by simp [yv] at hk⟩
    have key := p_layOut_20 (N := N) (by omega) hn hG hp v1 cs.length N _ _ σ (Nat.le_refl _) (by omega) start
    rw [if_pos nI_0, nm_d]
    unfold m_Gw_layOut f_Gw_layOut_0
    rw [p_empty, b2_some, nm_d, nm_d, hp.1, show nI cs.length - 1 = dn cs.length from rfl]
    rcases key with ⟨k1, ω', g', σ', k2, k3, k4⟩ | ⟨k1, ω', g', σ', k3, k4⟩
    · refine ⟨pl, y, ω', g', σ', r1, ey, by rw [k3, st2_k _ _ _ (by decide), st2_s], Or.inl ⟨?_, ?_, ?_⟩⟩
      · rw [ey] at k1
        simpa using k1
      · have := k2.2.2.1
        rw [ey] at this
        simpa using this
      · rw [k4, b4_some, if_neg (by decide)]
    · refine ⟨pl, y, ω', g', σ', r1, ey, by rw [k3, st2_k _ _ _ (by decide), st2_s], Or.inr ⟨?_, ?_⟩⟩
      · rw [ey] at k1
        simpa using k1
      · rw [k4, b4_some, if_pos rfl]
  · left
    refine ⟨v, pl, ω1, r1, z, r2, ?_⟩
    rw [if_neg (nI_ne0 (by omega) (by omega))]
/-! rows compared -/
theorem p_copyOf_7 {N : Nat} {g : Nat → Nat → Int32} {y : List Int32} (hg : SyL 12 g y) (kx : (Nat → Nat → Int32) → Option (Nat → Nat → Int32)) : ∀ (d k f : Nat) (ρ : Nat → Nat → Int32), k + d = y.length → d < f → SyL 12 ρ (y.take k) → ∃ ρ', SyL 12 ρ' y ∧ l_Sy_copyOf_7 N 12 12 g kx f ρ (nI k) = kx ρ' := by
  have hl := hg.2.1
  intro d
  induction d with
  | zero =>
    intro k f ρ hk hf hr
    obtain ⟨f, rfl⟩ : ∃ m, f = m + 1 := ⟨f - 1, by omega⟩
    have : k = y.length := by omega
    subst this
    rw [List.take_length] at hr
    refine ⟨ρ, hr, ?_⟩
    unfold l_Sy_copyOf_7 f_Sy_copyOf_7
    rw [hg.1, if_pos (nI_le (Nat.le_refl _) (by omega))]
  | succ d ih =>
    intro k f ρ hk hf hr
    obtain ⟨f, rfl⟩ : ∃ m, f = m + 1 := ⟨f - 1, by omega⟩
    obtain ⟨_, ρ1, a1, a2⟩ := (hr.append (by omega) (y.getD k 0)).resolve_right (fun h => by
      have := h.1
      rw [List.length_take] at this
      omega)
    rw [← take_snoc (by omega)] at a2
    obtain ⟨ρ', b1, b2⟩ := ih (k + 1) f ρ1 (by omega) (by omega) a2
    refine ⟨ρ', b1, ?_⟩
    unfold l_Sy_copyOf_7 f_Sy_copyOf_7
    rw [hg.1, if_neg (nI_ge (by omega) (by omega)), hg.at (by omega) (by omega), b1_some, a1, b2_some, nm_d, nI_1]
    exact b2
theorem p_copyOf {N : Nat} (hN : 13 ≤ N) {g ρ : Nat → Nat → Int32} {y : List Int32} (hg : SyL 12 g y) : ∃ ρ', SyL 12 ρ' y ∧ m_Sy_copyOf N 12 12 ρ g = some ρ' := by
  have hl := hg.2.1
  obtain ⟨ρ', b1, b2⟩ := p_copyOf_7 (N := N) hg (fun s_self => f_Sy_copyOf_31 N 12 12 s_self g) y.length 0 N (st2 ρ 0 1 0) (by omega) (by omega) (by rw [List.take_zero]; exact SyL.nil 12 ρ)
  refine ⟨ρ', b1, ?_⟩
  unfold m_Sy_copyOf f_Sy_copyOf_0
  rw [nm_d, ← nI_0]
  rw [← nI_0] at b2
  exact b2
/-- rows of equal size: the place of the first difference -/
theorem p_firstDiff_14 {N n m : Nat} (hn : n ≤ 1000) (hm : m ≤ 1000) {σ π : Nat → Nat → Int32} {x y : List Int32} (hx : SyL n σ x) (hy : SyL m π y) (hl : x.length = y.length) : ∀ (d k f : Nat), k + d = x.length → d < f →
    ((x.drop k = y.drop k) ∧ l_Sy_firstDifference_14 N n m σ π (nI x.length) (fun v3 => f_Sy_firstDifference_32 N n m σ π v3) (f_Sy_firstDifference_40 N n m σ π (nI x.length)) f (nI k) = some (nI x.length)) ∨ (∃ q, k ≤ q ∧ q < x.length ∧ x.getD q 0 ≠ y.getD q 0 ∧ (lx (x.drop k) (y.drop k) ↔ x.getD q 0 < y.getD q 0) ∧ l_Sy_firstDifference_14 N n m σ π (nI x.length) (fun v3 => f_Sy_firstDifference_32 N n m σ π v3) (f_Sy_firstDifference_40 N n m σ π (nI x.length)) f (nI k) = some (nI q)) := by
  have h1 := hx.2.1
  intro d
  induction d with
  | zero =>
    intro k f hk hf
    obtain ⟨f, rfl⟩ : ∃ m, f = m + 1 := ⟨f - 1, by omega⟩
    have : k = x.length := by omega
    subst this
    left
    refine ⟨by rw [List.drop_length, hl, List.drop_length], ?_⟩
    unfold l_Sy_firstDifference_14 f_Sy_firstDifference_14
    rw [if_pos (nI_le (Nat.le_refl _) (by omega))]
    rfl
  | succ d ih =>
    intro k f hk hf
    obtain ⟨f, rfl⟩ : ∃ m, f = m + 1 := ⟨f - 1, by omega⟩
    obtain ⟨X, hX⟩ : ∃ X, X = l_Sy_firstDifference_14 N n m σ π (nI x.length) (fun v3 => f_Sy_firstDifference_32 N n m σ π v3) (f_Sy_firstDifference_40 N n m σ π (nI x.length)) (f + 1) (nI k) := ⟨_, rfl⟩
    rw [← hX]
    have step : X = f_Sy_firstDifference_14 N n m (l_Sy_firstDifference_14 N n m σ π (nI x.length) (fun v3 => f_Sy_firstDifference_32 N n m σ π v3) (f_Sy_firstDifference_40 N n m σ π (nI x.length)) f) (fun v3 => f_Sy_firstDifference_32 N n m σ π v3) (f_Sy_firstDifference_40 N n m σ π (nI x.length)) σ π (nI x.length) (nI k) := hX
    unfold f_Sy_firstDifference_14 at step
    rw [if_neg (nI_ge (by omega) (by omega)), hx.at hn (by omega), b1_some, hy.at hm (by omega), b1_some] at step
    have dx : x.drop k = x.getD k 0 :: x.drop (k + 1) := drop_getD (by omega)
    have dy : y.drop k = y.getD k 0 :: y.drop (k + 1) := drop_getD (by omega)
    by_cases c : x.getD k 0 = y.getD k 0
    · rw [if_pos c, nm_d, nI_1] at step
      rcases ih (k + 1) f (by omega) (by omega) with ⟨a1, a2⟩ | ⟨q, a1, a2, a3, a4, a5⟩
      · left
        exact ⟨by rw [dx, dy, c, a1], by rw [step]; exact a2⟩
      · right
        refine ⟨q, by omega, a2, a3, ?_, by rw [step]; exact a5⟩
        rw [dx, dy, c, lx_cons]
        exact a4
    · rw [if_neg c] at step
      right
      refine ⟨k, Nat.le_refl _, by omega, c, ?_, by rw [step]; rfl⟩
      rw [dx, dy, lx_head c]
theorem p_isSameAs {N n m : Nat} (hN : 1001 ≤ N) (hn : n ≤ 1000) (hm : m ≤ 1000) {σ π : Nat → Nat → Int32} {x : List Int32} (hx : SyL n σ x) (hy : SyL m π x) : m_Sy_isSameAs N n m σ π = some 1 := by
  have h1 := hx.2.1
  have e : m_Sy_firstDifference N n m σ π = some (nI x.length) := by
    unfold m_Sy_firstDifference f_Sy_firstDifference_0
    rw [nm_d, hx.1, hy.1, if_neg (fun h => by rw [i_lt (by omega) (by omega)] at h; omega)]
    rcases p_firstDiff_14 (N := N) hn hm hx hy rfl x.length 0 N (by omega) (by omega) with ⟨_, a2⟩ | ⟨q, _, _, a3, _⟩
    · rw [← nI_0]
      exact a2
    · exact absurd rfl a3
  unfold m_Sy_isSameAs f_Sy_isSameAs_0
  rw [hx.1, hy.1, if_pos rfl, e, b1_some, if_pos rfl]
theorem p_isLessThan {N n m : Nat} (hN : 1001 ≤ N) (hn : n ≤ 1000) (hm : m ≤ 1000) {σ π : Nat → Nat → Int32} {x y : List Int32} (hx : SyL n σ x) (hy : SyL m π y) (h : cl x y) : m_Sy_isLessThan N n m σ π = some 1 := by
  have h1 := hx.2.1
  have h2 := hy.2.1
  unfold m_Sy_isLessThan f_Sy_isLessThan_0
  rw [hx.1, hy.1]
  rcases h with h | ⟨h, hlx⟩
  · rw [if_neg (of_eq_false (c_eq_f (by omega) (by omega) (by omega))), if_neg (nI_ge h (by omega))]
  · rw [if_pos (by rw [h])]
    unfold m_Sy_firstDifference f_Sy_firstDifference_0
    rw [nm_d, hx.1, hy.1, if_neg (fun h => by rw [i_lt (by omega) (by omega)] at h; omega)]
    rcases p_firstDiff_14 (N := N) hn hm hx hy h x.length 0 N (by omega) (by omega) with ⟨a1, _⟩ | ⟨q, _, a2, _, a4, a5⟩
    · rw [List.drop_zero, List.drop_zero] at a1
      rw [a1] at hlx
      exact absurd hlx (lx_irr y)
    · rw [List.drop_zero, List.drop_zero] at a4
      rw [nI_0] at a5
      rw [a5, b1_some, if_neg (nI_ge a2 (by omega)), hx.at hn a2, b1_some, hy.at hm (by omega), b1_some, if_neg (Int32.not_le.mpr (a4.mp hlx))]
