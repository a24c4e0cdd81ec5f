/-- the model's cell while a stretch is taken: ways, and the two least -/
def MA (μ : Nat → Nat → Int32) (s c : Nat) (A : List Int32 → Prop) : Prop := ∃ v p, μ 16 s = mW v ∧ Cnt A v ∧ MP μ c p ∧ Two A p
/-- a cell that is taken already -/
def MF (μ : Nat → Nat → Int32) (c : Nat) (A : List Int32 → Prop) : Prop := ∃ v p, μ 7 c = mW v ∧ Cnt A v ∧ MP μ c p ∧ Two A p
theorem q_takeWay {N : Nat} (hN : 201 ≤ N) {μ : Nat → Nat → Int32} {G : Gm} (hG : MdG μ G) {r i j : Nat} (hr : r < gR G) (hu : ¬ isU G r) (hij : i < j) (hj : j ≤ 12) {a : Nat → Int32} {cs : Nat → Nat} {ys : Nat → List Int32} (h26 : μ 0 26 = nI (dv (gry G r)).length) (hz : Pz μ (dv (gry G r)).length cs)
    (hp : ∀ k, k < (dv (gry G r)).length → cs k < 936 ∧ cs k ≠ mO (grs G r) i j ∧ ys k ≠ [] ∧ MF μ (cs k) (Sy G (sX G ((dv (gry G r)).getD k 0)) (ys k)))
    (hspl : Spl (gry G r) (sg a i j) ((List.range (dv (gry G r)).length).map ys)) {A : List Int32 → Prop} (hA : MA μ (grs G r) (mO (grs G r) i j) A) (hd : ∀ d, Pr G (dv (gry G r)) ((List.range (dv (gry G r)).length).map ys) d → ¬ A (nI r :: d)) :
    ∃ μ', m_Md_takeWay N μ (nI r) (nI i) (nI j) = some μ' ∧ MA μ' (grs G r) (mO (grs G r) i j) (fun e => A e ∨ ∃ d, Pr G (dv (gry G r)) ((List.range (dv (gry G r)).length).map ys) d ∧ e = nI r :: d) ∧ Ft (mO (grs G r) i j) (grs G r) μ μ' := by
  have hR := hG.1.2.2.1
  have h4 := dv_le4 hG.1 hr
  have hs : grs G r < 6 := by
    have h1 := (hG.1.2.2.2.2 r hr).1
    have h2 := hG.1.1
    omega
  have h2 := (hG.2.2.2.2.2 r hr).1
  obtain ⟨v, p, w1, w2, w3, w4⟩ := hA
  obtain ⟨pr, f1, f2⟩ := q_way_6 (N := N) hR hr h26 h4 hz (fun k hk => by
    obtain ⟨a1, _, _, v, p, a2, a3, _⟩ := hp k hk
    exact ⟨a1, v, a2, a3⟩) (nI i) (nI j) (fun v4 => f_Md_takeWay_39 N μ (nI r) (nI i) (nI j) v4) (dv (gry G r)).length 0 N 1 (by omega) (by omega) (by rw [List.take_zero]; exact Cnt.one [])
  have run : m_Md_takeWay N μ (nI r) (nI i) (nI j) = f_Md_takeWay_39 N μ (nI r) (nI i) (nI j) (mW pr) := by
    rw [nI_0, mW_n (by omega)] at f2
    exact f2
  unfold f_Md_takeWay_39 at run
  rw [ck_n (by omega) (by omega), ck_n (by omega) (by omega), nI_clamp (by omega), h2, ck_n (by omega) (by omega), nI_clamp (by omega), w1, q_sum w2.le f1.le, b1_some, ck_n (by omega) (by omega), nm_d] at run
  have ft0 : Ft (mO (grs G r) i j) (grs G r) μ (st2 μ 16 (grs G r) (mW (wplus v pr))) := ⟨fun b _ _ _ _ b16 => st2_a _ _ _ b16, fun k _ => st2_aj _ _ _ _ (by decide), fun s hs' => st2_k _ _ _ hs', fun z _ _ => st2_aj _ _ _ _ (by decide), fun z _ => st2_aj _ _ _ _ (by decide)⟩
  have hC : Cnt (fun e => A e ∨ ∃ d, Pr G (dv (gry G r)) ((List.range (dv (gry G r)).length).map ys) d ∧ e = nI r :: d) (wplus v pr) := by
    refine w2.union (f1.cons (nI r)) ?_
    rintro e h1 ⟨d, d1, rfl⟩
    exact hd d d1 h1
  have hp0 : MP (st2 μ 16 (grs G r) (mW (wplus v pr))) (mO (grs G r) i j) p := w3.same (st2_a _ _ _ (by decide)) (st2_a _ _ _ (by decide))
  by_cases z : pr = 0
  · have e0 : mW pr = 0 := by rw [z, mW_n (by omega), nI_0]
    rw [if_pos e0] at run
    refine ⟨_, run, ⟨wplus v pr, p, st2_s _ _ _ _, hC, hp0, w4.congr (fun e => ?_)⟩, ft0⟩
    constructor
    · exact fun h => Or.inl h
    · rintro (h | ⟨d, h, _⟩)
      · exact h
      · exact absurd h (f1.zero.mp z d)
  · have e0 : ¬ mW pr = 0 := by
      have := f1.le
      by_cases e : pr = 1000002
      · rw [e, mW_E]; decide
      · rw [mW_n e]; exact nI_ne0 (by omega) (by omega)
    rw [if_neg e0, ← dn_0] at run
    -- the parts' pairs
    have hex : ∃ d, Pr G (dv (gry G r)) ((List.range (dv (gry G r)).length).map ys) d := by
      apply Classical.byContradiction
      intro hn
      exact z (f1.zero.mpr (fun c hc => hn ⟨c, hc⟩))
    obtain ⟨F, F1⟩ : ∃ F : Nat → List Int32, ∀ k, k < (dv (gry G r)).length → Sy G (sX G ((dv (gry G r)).getD k 0)) (ys k) (F k) := by
      obtain ⟨d, hd'⟩ := hex
      obtain ⟨F, _, F2⟩ := (Pr_cat (dv (gry G r)).length _ _ _ rfl (by simp)).mp hd'
      refine ⟨F, fun k hk => ?_⟩
      have := F2 k hk
      rw [range_getD ys hk] at this
      exact this
    have key : ∀ k, ∃ q, k < (dv (gry G r)).length → MP μ (cs k) q ∧ Two (Sy G (sX G ((dv (gry G r)).getD k 0)) (ys k)) q := by
      intro k
      by_cases hk : k < (dv (gry G r)).length
      · obtain ⟨_, _, _, v, q, _, _, a4, a5⟩ := hp k hk
        exact ⟨q, fun _ => ⟨a4, a5⟩⟩
      · exact ⟨[], fun h => absurd h hk⟩
    obtain ⟨pa, hpa⟩ : ∃ pa : Nat → List (List Int32), ∀ k, k < (dv (gry G r)).length → MP μ (cs k) (pa k) ∧ Two (Sy G (sX G ((dv (gry G r)).getD k 0)) (ys k)) (pa k) := ⟨fun k => Classical.choose (key k), fun k hk => Classical.choose_spec (key k) hk⟩
    -- what is known of each
    have pf : ∀ k, k < (dv (gry G r)).length → Sy G (sX G ((dv (gry G r)).getD k 0)) (ys k) ((pa k).getD 0 []) ∧ ((pa k).getD 0 []).length + 6 ≤ 12 * (ys k).length ∧ ((pa k).length = 2 → Sy G (sX G ((dv (gry G r)).getD k 0)) (ys k) ((pa k).getD 1 []) ∧ cl ((pa k).getD 0 []) ((pa k).getD 1 []) ∧ ((pa k).getD 1 []).length ≤ 12 * (ys k).length) ∧ (∀ e, Sy G (sX G ((dv (gry G r)).getD k 0)) (ys k) e → e = (pa k).getD 0 [] ∨ ((pa k).length = 2 ∧ (e = (pa k).getD 1 [] ∨ cl ((pa k).getD 1 []) e))) ∧ ((pa k).getD 1 []).length ≤ 12 * (ys k).length := by
      intro k hk
      obtain ⟨_, hT⟩ := hpa k hk
      obtain ⟨l1, l2⟩ := Two_len hG.1 (dv_s6 hG.1 hr hk) hT
      rcases hT.shape with ⟨e, h⟩ | ⟨x, e, h1, h2⟩ | ⟨x, y, e, h1, h2, h3, h4⟩
      · exact absurd (F1 k hk) (h _)
      · rw [e]
        refine ⟨h1, l1 x [] e, fun q => by simp at q, fun z hz' => Or.inl (h2 z hz'), by simp⟩
      · rw [e]
        refine ⟨h1, l1 x [y] e, fun _ => ⟨h2, h3, l2 y (by rw [e]; simp)⟩, fun z hz' => ?_, l2 y (by rw [e]; simp)⟩
        rcases h4 z hz' with q | q | q
        · exact Or.inl q
        · exact Or.inr ⟨rfl, Or.inl q⟩
        · exact Or.inr ⟨rfl, Or.inr q⟩
    have hne : ∀ g, g ∈ (List.range (dv (gry G r)).length).map ys → g ≠ [] := by
      intro g hg
      obtain ⟨k, hk, rfl⟩ := mem_getD (d := []) hg
      simp only [List.length_map, List.length_range] at hk
      rw [range_getD _ hk]
      exact (hp k hk).2.2.1
    have hsum := Spl_sum hG.1 hr hu hspl hne
    rw [cat_flat, sg_len] at hsum
    simp only [List.length_map, List.length_range] at hsum
    have hyl : ∀ k, k < (dv (gry G r)).length → (ys k).length ≤ 12 := by
      intro k hk
      have := Spl_part hG.1 hr hu hspl hne (g := ys k) (by
        have := getD_mem (ps := (List.range (dv (gry G r)).length).map ys) (d := []) (k := k) (by simpa using hk)
        rw [range_getD ys hk] at this
        exact this)
      rw [sg_len] at this
      omega
    have hb : ∀ o, o ≤ (dv (gry G r)).length → (o = 0 ∨ (pa (o - 1)).length = 2) → (nI r :: cat (fun q => (pa q).getD (if q + 1 = o then 1 else 0) []) (dv (gry G r)).length).length ≤ 200 := by
      intro o ho hok
      have := cat_len (F := fun q => (pa q).getD (if q + 1 = o then 1 else 0) []) (Y := ys) (j := o - 1) (dv (gry G r)).length (fun q hq => by
        show ((pa q).getD (if q + 1 = o then 1 else 0) []).length + 6 ≤ _
        obtain ⟨_, p2, p3, _⟩ := pf q hq
        by_cases c : q + 1 = o
        · rw [if_pos c, if_pos (by omega)]
          have : (pa q).length = 2 := by
            rw [show q = o - 1 by omega]
            exact hok.resolve_left (by omega)
          have := (p3 this).2.2
          omega
        · rw [if_neg c]
          by_cases c2 : q = o - 1
          · rw [if_pos c2]; omega
          · rw [if_neg c2]; omega)
      simp only [List.length_cons]
      by_cases c : o - 1 < (dv (gry G r)).length
      · rw [if_pos c] at this
        omega
      · rw [if_neg c] at this
        omega
    obtain ⟨μ', p', g1, g2, g3, g4, g5⟩ := q_way_75 hN (A := A) h4 (show r < 31 by omega) hs (show i < 12 by omega) hj (fun k hk => ⟨(hp k hk).1, (hp k hk).2.1⟩) (fun k hk => by
        have h1 := (hpa k hk).1.2.2.1.2.1
        have h2 := (hpa k hk).1.2.2.2.2.1
        exact ⟨h1, h2⟩) hb ((dv (gry G r)).length + 1) 0 N (st2 μ 16 (grs G r) (mW (wplus v pr))) p (by omega) (by omega) (by rw [st2_aj _ _ _ _ (by decide)]; exact h26) (by rw [st2_aj _ _ _ _ (by decide)]; exact h2) (hz.ft ft0) (fun k hk => (hpa k hk).1.ft ft0 (hp k hk).2.1) hp0 (w4.congr (fun e => by
        constructor
        · exact fun q => Or.inl q
        · rintro (q | ⟨q, _⟩ | ⟨q, q1, _⟩)
          · exact q
          · omega
          · omega))
    refine ⟨μ', by rw [run]; exact g5, ⟨wplus v pr, p', by rw [g4, st2_s], hC, g1, g2.ext ?_ ?_⟩, ft0.trans g3⟩
    · rintro e (q | ⟨_, q⟩ | ⟨q, q1, q2, q3⟩)
      · exact Or.inl q
      · refine Or.inr ⟨_, (Pr_cat (dv (gry G r)).length _ _ _ rfl (by simp)).mpr ⟨_, rfl, fun k hk => ?_⟩, q⟩
        rw [range_getD ys hk]
        exact (pf k hk).1
      · refine Or.inr ⟨_, (Pr_cat (dv (gry G r)).length _ _ _ rfl (by simp)).mpr ⟨_, rfl, fun k hk => ?_⟩, q3⟩
        rw [range_getD ys hk]
        unfold swp
        by_cases e : k = q
        · subst e
          rw [if_pos rfl]
          exact ((pf k hk).2.2.1 q2).1
        · rw [if_neg e]
          exact (pf k hk).1
    · rintro e (q | ⟨d, q1, rfl⟩)
      · exact Or.inl (Or.inl q)
      · obtain ⟨F', rfl, F2⟩ := (Pr_cat (dv (gry G r)).length _ _ _ rfl (by simp)).mp q1
        have F3 : ∀ k, k < (dv (gry G r)).length → Sy G (sX G ((dv (gry G r)).getD k 0)) (ys k) (F' k) := by
          intro k hk
          have := F2 k hk
          rw [range_getD ys hk] at this
          exact this
        have mk : ∀ x, Off (fun k => (pa k).getD 0 []) (fun k => (pa k).getD 1 []) (fun k => (pa k).length = 2) (dv (gry G r)).length x → OM A r (fun k => (pa k).getD 0 []) (fun k => (pa k).getD 1 []) (fun k => (pa k).length = 2) (dv (gry G r)).length ((dv (gry G r)).length + 1) (nI r :: x) := by
          rintro x (q | ⟨w, z1, z2, z3⟩)
          · exact Or.inr (Or.inl ⟨by omega, by rw [q]⟩)
          · exact Or.inr (Or.inr ⟨w, by omega, z2, by rw [z3]⟩)
        rcases Off_dom (A := fun k e => Sy G (sX G ((dv (gry G r)).getD k 0)) (ys k) e) (a := fun k => (pa k).getD 0 []) (b := fun k => (pa k).getD 1 []) (h2 := fun k => (pa k).length = 2) (m := (dv (gry G r)).length) (fun k hk hh => ((pf k hk).2.2.1 hh).2.1) (fun k hk e he => (pf k hk).2.2.2.1 e he) F3 with q | ⟨x, y, x1, y1, xy, x2, y2⟩
        · exact Or.inl (mk _ q)
        · exact Or.inr ⟨_, _, mk x x1, mk y y1, fun e => xy (by injection e), cl_cons.mpr x2, cl_cons.mpr y2⟩
