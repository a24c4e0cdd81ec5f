/-! unit trees, from small to large -/
def FrS (i j : Nat) (χ τ : Nat → Nat → Int32) (C : Nat → List Int32) (V : Nat → Prop) (χ' τ' : Nat → Nat → Int32) (C' : Nat → List Int32) (V' : Nat → Prop) : Prop :=
  (∀ k, (∀ s, s < 6 → k ≠ cO s i j) → χ' 1 k = χ 1 k) ∧ ∀ t, t < 936 → (∀ s, s < 6 → t ≠ 2 * cO s i j ∧ t ≠ 2 * cO s i j + 1) → (V' t ↔ V t) ∧ C' t = C t ∧ Sam τ τ' t
theorem FrS.refl (i j : Nat) (χ τ : Nat → Nat → Int32) (C : Nat → List Int32) (V : Nat → Prop) : FrS i j χ τ C V χ τ C V := ⟨fun _ _ => rfl, fun _ _ _ => ⟨Iff.rfl, rfl, Sam.refl _ _⟩⟩
theorem FrS.trans {i j : Nat} {χ τ χ' τ' χ'' τ'' : Nat → Nat → Int32} {C C' C'' : Nat → List Int32} {V V' V'' : Nat → Prop} (h : FrS i j χ τ C V χ' τ' C' V') (k : FrS i j χ' τ' C' V' χ'' τ'' C'' V'') : FrS i j χ τ C V χ'' τ'' C'' V'' := by
  refine ⟨fun z hz => by rw [k.1 z hz, h.1 z hz], fun t h1 h2 => ?_⟩
  obtain ⟨a1, a2, a3⟩ := h.2 t h1 h2
  obtain ⟨b1, b2, b3⟩ := k.2 t h1 h2
  exact ⟨b1.trans a1, b2.trans a2, a3.trans b3⟩
theorem Fr.all {s i j : Nat} (hs : s < 6) {χ τ χ' τ' : Nat → Nat → Int32} {C C' : Nat → List Int32} {V V' : Nat → Prop} (h : Fr (cO s i j) χ τ C V χ' τ' C' V') : FrS i j χ τ C V χ' τ' C' V' :=
  ⟨fun k hk => h.1 k (hk s hs), fun t h1 h2 => h.2 t h1 (h2 s hs).1 (h2 s hs).2⟩
theorem CA.frameS {χ τ χ' τ' : Nat → Nat → Int32} {C C' : Nat → List Int32} {V V' : Nat → Prop} {c i j : Nat} {A : List Int32 → Prop} (h : CA χ τ C V c A) (hc : c < 468) (hn : ∀ s, s < 6 → c ≠ cO s i j) (k : FrS i j χ τ C V χ' τ' C' V') : CA χ' τ' C' V' c A := by
  obtain ⟨v, p, h1, h2, h3, h4⟩ := h
  refine ⟨v, p, by rw [k.1 c hn]; exact h1, h2, h3.frame (fun t ht => ?_), h4⟩
  obtain ⟨x1, x2, x3⟩ := k.2 t (by omega) (fun s hs => ⟨by have := hn s hs; omega, by have := hn s hs; omega⟩)
  exact ⟨x1, x2, x3.1⟩
/-- what has been offered to a sort -/
def Au (G : Gm) (us : List Nat) (y : List Int32) (z u w : Nat) (P : Nat → List (List Int32)) (s : Nat) (e : List Int32) : Prop :=
  Bs G s y e ∨ ∃ r b c, r ∈ us ∧ grs G r = s ∧ (P (uS G r))[b]? = some c ∧ c.length < 150 ∧ c.length ≤ z ∧ (c.length < z ∨ r ∈ us.take u ∨ (us[u]? = some r ∧ b < w)) ∧ e = nI r :: c
def UIv (G : Gm) (i j : Nat) (us : List Nat) (y : List Int32) (Q0 Q : Nat → Prop) (z u w : Nat) (τ : Nat → Nat → Int32) (C : Nat → List Int32) (V : Nat → Prop) (P : Nat → List (List Int32)) : Prop :=
  FS τ C (ar G) V Q ∧ (∀ s, s < 6 → Pair τ C V (cO s i j) (P s)) ∧ (∀ s, s < 6 → Two (Au G us y z u w P s) (P s)) ∧
  (∀ t, Q t → Q0 t ∨ ((∃ s, s < 6 ∧ (t = 2 * cO s i j ∨ t = 2 * cO s i j + 1)) ∧ (C t).length ≤ z)) ∧ (∀ t, Q0 t → Q t) ∧
  ∀ s, s < 6 → ∀ b, b < 2 → V (2 * cO s i j + b) → (C (2 * cO s i j + b)).length ≤ z → Q (2 * cO s i j + b)
theorem pw_pos {p : List (List Int32)} (h : p.Pairwise cl) {b w : Nat} {x : List Int32} (hb : p[b]? = some x) (hw : p[w]? = some x) (hlt : b < w) : False := by
  obtain ⟨h1, e1⟩ := List.getElem?_eq_some_iff.mp hb
  obtain ⟨h2, e2⟩ := List.getElem?_eq_some_iff.mp hw
  have := List.pairwise_iff_getElem.mp h b w h1 h2 hlt
  rw [e1, e2] at this
  exact cl_irr x this
theorem take_nd {us : List Nat} (h : us.Nodup) {u r : Nat} (hu : us[u]? = some r) : r ∉ us.take u := by
  intro hm
  obtain ⟨k, hk, e⟩ := List.mem_iff_getElem.mp hm
  simp only [List.length_take] at hk
  obtain ⟨h1, e1⟩ := List.getElem?_eq_some_iff.mp hu
  rw [List.getElem_take] at e
  have := List.pairwise_iff_getElem.mp h k u (by omega) h1 (by omega)
  exact this (e.trans e1.symm)
theorem p_offerUnit_34 {N : Nat} (hN : 151 ≤ N) {γ χ : Nat → Nat → Int32} {G : Gm} (hG : GrOK γ G) {i j : Nat} (hij : i < j) (hj : j ≤ 12) {us : List Nat} (hus : us.Nodup) (hum : ∀ r, r ∈ us → r < gR G ∧ isU G r) {y : List Int32} {Q0 Q : Nat → Prop} (hQ0 : ∀ t, Q0 t → ∀ s, s < 6 → t ≠ 2 * cO s i j ∧ t ≠ 2 * cO s i j + 1) {z u r : Nat} (hz : 1 ≤ z) (hz2 : z ≤ 150) (hur : us[u]? = some r) (kx : (Nat → Nat → Int32) → Option (Nat → Nat → Int32)) :
    ∀ (d w n : Nat) (τ : Nat → Nat → Int32) (C : Nat → List Int32) (V : Nat → Prop) (P : Nat → List (List Int32)), w + d = 2 → d < n → UIv G i j us y Q0 Q z u w τ C V P →
      ∃ τ' C' V' P', UIv G i j us y Q0 Q z u 2 τ' C' V' P' ∧ FrS i j χ τ C V χ τ' C' V' ∧ (∀ t, Q t → C' t = C t) ∧ l_Ch_offerUnit_34 N χ γ (nI r) (nI z) (nI (cO (grs G r) i j)) (nI (cO (uS G r) i j)) kx n τ (nI w) = kx τ' := by
  have hR := hG.1.2.2.1
  have hrm : r ∈ us := List.mem_of_getElem? hur
  obtain ⟨hr, hu⟩ := hum r hrm
  have hs : grs G r < 6 := by
    have h1 := (hG.1.2.2.2.2 r hr).1
    have h2 := hG.1.1
    omega
  have ht6 := uS_lt6 hG.1 hr hu
  have hc := cO_lt hs hij hj
  have hct := cO_lt ht6 hij hj
  intro d
  induction d with
  | zero =>
    intro w n τ C V P hw hn hI
    obtain ⟨m, rfl⟩ : ∃ m, n = m + 1 := ⟨n - 1, by omega⟩
    have : w = 2 := by omega
    subst this
    refine ⟨τ, C, V, P, hI, FrS.refl _ _ _ _ _ _, fun _ _ => rfl, ?_⟩
    unfold l_Ch_offerUnit_34 f_Ch_offerUnit_34
    rw [l_2, if_pos (nI_le (Nat.le_refl _) (by omega))]
  | succ d ih =>
    intro w n τ C V P hw hn hI
    obtain ⟨m, rfl⟩ : ∃ m, n = m + 1 := ⟨n - 1, by omega⟩
    obtain ⟨hS, hP, hT, hQ, hQQ, hQs⟩ := hI
    have hw2 : w < 2 := by omega
    have etree : m_Tt_treeOf (nI (cO (uS G r) i j)) (nI w) = some (nI (2 * cO (uS G r) i j + w)) := by
      unfold m_Tt_treeOf f_Tt_treeOf_0
      rw [l_2, pk_mul, nI_add]
    have lstep : l_Ch_offerUnit_34 N χ γ (nI r) (nI z) (nI (cO (grs G r) i j)) (nI (cO (uS G r) i j)) kx (m + 1) τ (nI w) = if τ 1 (2 * cO (uS G r) i j + w) = nI z then bd1 (m_Tt_startDraft τ (nI r) 1) fun s_table_8 => bd1 (m_Tt_setDraftPart s_table_8 0 (nI (2 * cO (uS G r) i j + w))) fun s_table_10 => bd1 (m_Tt_offerDraft N s_table_10 (nI (cO (grs G r) i j))) fun s_table_12 => l_Ch_offerUnit_34 N χ γ (nI r) (nI z) (nI (cO (grs G r) i j)) (nI (cO (uS G r) i j)) kx m s_table_12 (nI (w + 1)) else l_Ch_offerUnit_34 N χ γ (nI r) (nI z) (nI (cO (grs G r) i j)) (nI (cO (uS G r) i j)) kx m τ (nI (w + 1)) := by
      rw [show l_Ch_offerUnit_34 N χ γ (nI r) (nI z) (nI (cO (grs G r) i j)) (nI (cO (uS G r) i j)) kx (m + 1) τ (nI w) = f_Ch_offerUnit_34 N (l_Ch_offerUnit_34 N χ γ (nI r) (nI z) (nI (cO (grs G r) i j)) (nI (cO (uS G r) i j)) kx m) kx χ γ τ (nI r) (nI z) (nI (cO (grs G r) i j)) (nI (cO (uS G r) i j)) (nI w) from rfl]
      unfold f_Ch_offerUnit_34
      rw [l_2, if_neg (nI_ge hw2 (by omega)), etree, b1_some, p_sizeAt (by omega), b1_some, nI_1]
      rfl
    rw [lstep]
    by_cases hsz : τ 1 (2 * cO (uS G r) i j + w) = nI z
    · rw [if_pos hsz]
      obtain ⟨hv, hp, e1, e2⟩ := ((hP _ ht6).get hS.1 hw2).resolve_right (fun h => by
        rw [h.2.2] at hsz
        exact nI_ne0 (by omega) (by omega) hsz.symm)
      have h150 := (hS.2.1 _ hv).2
      have hlen : (C (2 * cO (uS G r) i j + w)).length = z := by
        rw [e1] at hsz
        exact nI_inj (by omega) (by omega) hsz
      have hq := hQs _ ht6 w hw2 hv (by omega)
      have hD0 : Dch τ (st2 (st2 (st2 τ 2 936 (nI r)) 3 936 (nI 1)) 4 3744 (nI (2 * cO (uS G r) i j + w))) := by
        refine ⟨fun b hb s hs => ?_, fun s hs => ?_, 1, by omega, ?_⟩
        · rw [st2_aj _ _ _ _ hb]
          by_cases c3 : b = 3
          · subst c3
            rw [st2_k _ _ _ (by omega), st2_aj _ _ _ _ (by decide)]
          · rw [st2_aj _ _ _ _ c3]
            by_cases c2 : b = 2
            · subst c2
              rw [st2_k _ _ _ (by omega)]
            · rw [st2_aj _ _ _ _ c2]
        · rw [st2_k _ _ _ (by omega), st2_aj _ _ _ _ (by decide), st2_aj _ _ _ _ (by decide)]
        · rw [st2_aj _ _ _ _ (by decide), st2_s]
      have ed : bd1 (m_Tt_startDraft τ (nI r) 1) (fun s_table_8 => bd1 (m_Tt_setDraftPart s_table_8 0 (nI (2 * cO (uS G r) i j + w))) fun s_table_10 => bd1 (m_Tt_offerDraft N s_table_10 (nI (cO (grs G r) i j))) fun s_table_12 => l_Ch_offerUnit_34 N χ γ (nI r) (nI z) (nI (cO (grs G r) i j)) (nI (cO (uS G r) i j)) kx m s_table_12 (nI (w + 1))) = bd1 (m_Tt_offerDraft N (st2 (st2 (st2 τ 2 936 (nI r)) 3 936 (nI 1)) 4 3744 (nI (2 * cO (uS G r) i j + w))) (nI (cO (grs G r) i j))) fun s_table_12 => l_Ch_offerUnit_34 N χ γ (nI r) (nI z) (nI (cO (grs G r) i j)) (nI (cO (uS G r) i j)) kx m s_table_12 (nI (w + 1)) := by
        rw [show (1 : Int32) = nI 1 from rfl, p_startDraft (by omega), b1_some, ← nI_0, p_setDraftPart (by omega) (by omega), b1_some]
      rw [ed]
      generalize hτ1 : st2 (st2 (st2 τ 2 936 (nI r)) 3 936 (nI 1)) 4 3744 (nI (2 * cO (uS G r) i j + w)) = τ1 at *
      have hDe : (nI r :: ([2 * cO (uS G r) i j + w].map C).flatten) = nI r :: C (2 * cO (uS G r) i j + w) := by simp
      have hnot : ¬ Au G us y z u w P (grs G r) (nI r :: C (2 * cO (uS G r) i j + w)) := by
        rintro (q | ⟨r', b, c, q1, q2, q3, q4, q5, q6, q7⟩)
        · exact Bs_head hR hr hu q
        · injection q7 with q7 q8
          have er : r = r' := nI_inj (by omega) (by have := (hum r' q1).1; omega) q7
          subst er
          subst q8
          rcases q6 with q6 | q6 | ⟨_, q6⟩
          · omega
          · exact take_nd hus hur q6
          · exact pw_pos (hT _ ht6).2.2.1 q3 hp q6
      obtain ⟨τ2, C2, V2, p2, o1, o2, o3, o4, o5, o6, o7, o8⟩ := p_offer hN (hS.draft hD0).1 (hS.draft hD0).2.1 (hS.draft hD0).2.2 (hd := nI r) (ps := [2 * cO (uS G r) i j + w])
        ⟨by rw [ar_r (by omega), ((isU_iff r).mp hu).2]; rfl, by simp, by rw [← hτ1, st2_aj _ _ _ _ (by decide), st2_aj _ _ _ _ (by decide), st2_s], by rw [← hτ1, st2_aj _ _ _ _ (by decide), st2_s]; rfl, fun k hk => by
          simp only [List.length_cons, List.length_nil] at hk
          have : k = 0 := by omega
          subst this
          refine ⟨by rw [← hτ1, st2_s]; rfl, hq⟩⟩ hc ((hP _ hs).frame (fun s hs => ⟨Iff.rfl, rfl, hD0.1 1 (by decide) s (by omega)⟩))
        (fun t ht he => by
          rw [hDe]
          simp only [List.length_cons]
          rcases hQ t ht with h | ⟨_, h⟩
          · exfalso
            have := hQ0 t h _ hs
            rcases he with he | he
            · exact this.1 he
            · exact this.2 he
          · omega)
        (by
          rw [hDe]
          intro hin
          exact hnot ((hT _ hs).2.1 _ hin))
      rw [hDe] at o8
      obtain ⟨u1, u2, u3, u4⟩ := o6
      -- small trees are where they were
      have keep : ∀ x : List Int32, x.length ≤ z → ∀ b : Nat, (P (grs G r))[b]? = some x ↔ p2[b]? = some x := by
        intro x hx b
        rcases o8 with ⟨_, h⟩ | ⟨_, h⟩
        · exact h.keep (hT _ hs).2.2.1 (by simp only [List.length_cons]; omega) b
        · rw [h]
      have keepP : ∀ x : List Int32, x.length ≤ z → ∀ s b : Nat, (P s)[b]? = some x ↔ (if s = grs G r then p2 else P s)[b]? = some x := by
        intro x hx s b
        by_cases e : s = grs G r
        · rw [if_pos e, e]
          exact keep x hx b
        · rw [if_neg e]
      have frame1 : ∀ s, s < 6 → s ≠ grs G r → ∀ b, b < 2 → (V2 (2 * cO s i j + b) ↔ V (2 * cO s i j + b)) ∧ C2 (2 * cO s i j + b) = C (2 * cO s i j + b) ∧ τ2 1 (2 * cO s i j + b) = τ 1 (2 * cO s i j + b) := by
        intro s hs' hne b hb
        have hcs := cO_lt hs' hij hj
        have hn : cO s i j ≠ cO (grs G r) i j := fun e => hne (cO_inj hs' hs hij hij e).1
        obtain ⟨a1, a2, a3⟩ := u1 (2 * cO s i j + b) (by omega) (by omega) (by omega)
        exact ⟨a1, a2, by rw [a3.1, hD0.1 1 (by decide) _ (by omega)]⟩
      have hI2 : UIv G i j us y Q0 Q z u (w + 1) τ2 C2 V2 (fun s => if s = grs G r then p2 else P s) := by
        refine ⟨⟨o2, o3, o4⟩, ?_, ?_, ?_, hQQ, ?_⟩
        · intro s hs'
          by_cases e : s = grs G r
          · simp only [if_pos e]
            rw [e]; exact o5
          · simp only [if_neg e]
            refine (hP s hs').frame (fun t ht => ?_)
            rcases ht with rfl | rfl
            · exact frame1 s hs' e 0 (by omega)
            · exact frame1 s hs' e 1 (by omega)
        · intro s hs'
          -- the sets
          have sets : ∀ e, Au G us y z u (w + 1) (fun s => if s = grs G r then p2 else P s) s e ↔ (Au G us y z u w P s e ∨ (s = grs G r ∧ z < 150 ∧ e = nI r :: C (2 * cO (uS G r) i j + w))) := by
            intro e
            constructor
            · rintro (q | ⟨r', b, c, q1, q2, q3, q4, q5, q6, q7⟩)
              · exact Or.inl (Or.inl q)
              · have q3' := (keepP c q5 _ b).mpr q3
                rcases q6 with q6 | q6 | ⟨q6, q8⟩
                · exact Or.inl (Or.inr ⟨r', b, c, q1, q2, q3', q4, q5, Or.inl q6, q7⟩)
                · exact Or.inl (Or.inr ⟨r', b, c, q1, q2, q3', q4, q5, Or.inr (Or.inl q6), q7⟩)
                · by_cases eb : b = w
                  · subst eb
                    rw [hur] at q6
                    injection q6 with q6
                    subst q6
                    rw [hp] at q3'
                    injection q3' with q3'
                    subst q3'
                    exact Or.inr ⟨q2.symm, by omega, q7⟩
                  · exact Or.inl (Or.inr ⟨r', b, c, q1, q2, q3', q4, q5, Or.inr (Or.inr ⟨q6, by omega⟩), q7⟩)
            · rintro ((q | ⟨r', b, c, q1, q2, q3, q4, q5, q6, q7⟩) | ⟨q1, q2, q3⟩)
              · exact Or.inl q
              · refine Or.inr ⟨r', b, c, q1, q2, (keepP c q5 _ b).mp q3, q4, q5, ?_, q7⟩
                rcases q6 with q6 | q6 | ⟨q6, q8⟩
                · exact Or.inl q6
                · exact Or.inr (Or.inl q6)
                · exact Or.inr (Or.inr ⟨q6, by omega⟩)
              · exact Or.inr ⟨r, w, _, hrm, q1.symm, (keepP _ (by omega) _ w).mp hp, by omega, by omega, Or.inr (Or.inr ⟨hur, by omega⟩), q3⟩
          by_cases e : s = grs G r
          · simp only [if_pos e]
            subst e
            rcases o8 with ⟨o8, hins⟩ | ⟨o8, rfl⟩
            · simp only [List.length_cons] at o8
              refine (hins.two (hT _ hs')).congr (fun e => ?_)
              rw [sets e]
              constructor
              · rintro (q | q)
                · exact Or.inl q
                · exact Or.inr ⟨rfl, by omega, q⟩
              · rintro (q | ⟨_, _, q⟩)
                · exact Or.inl q
                · exact Or.inr q
            · simp only [List.length_cons] at o8
              refine (hT _ hs').congr (fun e => ?_)
              rw [sets e]
              constructor
              · exact fun q => Or.inl q
              · rintro (q | ⟨_, q, _⟩)
                · exact q
                · omega
          · simp only [if_neg e]
            refine (hT _ hs').congr (fun x => ?_)
            rw [sets x]
            constructor
            · exact fun q => Or.inl q
            · rintro (q | ⟨q, _⟩)
              · exact q
              · exact absurd q e
        · intro t ht
          rw [o7 t ht]
          exact hQ t ht
        · intro s hs' b hb hv' hl
          by_cases e : s = grs G r
          · subst e
            obtain ⟨_, g2, _, _⟩ := (o5.get o2 hb).resolve_right (fun h => h.1 hv')
            have g3 := (keep _ hl b).mpr g2
            rcases (hP _ hs).get hS.1 hb with ⟨k1, k2, _, _⟩ | ⟨_, k2, _⟩
            · rw [k2] at g3
              injection g3 with g3
              exact hQs _ hs b hb k1 (by rw [g3]; exact hl)
            · rw [k2] at g3
              simp at g3
          · obtain ⟨a1, a2, a3⟩ := frame1 s hs' e b hb
            exact hQs s hs' b hb (a1.mp hv') (by rw [← a2]; exact hl)
      obtain ⟨τ', C', V', P', g1, g2, g3, g4⟩ := ih (w + 1) m τ2 C2 V2 _ (by omega) (by omega) hI2
      refine ⟨τ', C', V', P', g1, ?_, fun t ht => by rw [g3 t ht, o7 t ht], by rw [o1, b1_some]; exact g4⟩
      refine FrS.trans (Fr.all (s := grs G r) (i := i) (j := j) hs ?_) g2
      exact Fr.trans (χ' := χ) ⟨fun _ _ => rfl, fun s s1 _ _ => ⟨Iff.rfl, rfl, hD0.sam s1⟩⟩ (Ofr.fr ⟨u1, u2, u3, u4⟩ χ)
    · rw [if_neg hsz]
      have hI2 : UIv G i j us y Q0 Q z u (w + 1) τ C V P := by
        refine ⟨hS, hP, fun s hs' => (hT s hs').congr (fun e => ?_), hQ, hQQ, hQs⟩
        constructor
        · rintro (q | ⟨r', b, c, q1, q2, q3, q4, q5, q6, q7⟩)
          · exact Or.inl q
          · refine Or.inr ⟨r', b, c, q1, q2, q3, q4, q5, ?_, q7⟩
            rcases q6 with q6 | q6 | ⟨q6, q8⟩
            · exact Or.inl q6
            · exact Or.inr (Or.inl q6)
            · exact Or.inr (Or.inr ⟨q6, by omega⟩)
        · rintro (q | ⟨r', b, c, q1, q2, q3, q4, q5, q6, q7⟩)
          · exact Or.inl q
          · refine Or.inr ⟨r', b, c, q1, q2, q3, q4, q5, ?_, q7⟩
            rcases q6 with q6 | q6 | ⟨q6, q8⟩
            · exact Or.inl q6
            · exact Or.inr (Or.inl q6)
            · by_cases eb : b = w
              · left
                subst eb
                rw [hur] at q6
                injection q6 with q6
                subst q6
                rcases (hP _ ht6).get hS.1 hw2 with ⟨k1, k2, k3, _⟩ | ⟨_, k2, _⟩
                · rw [k2] at q3
                  injection q3 with q3
                  subst q3
                  apply Classical.byContradiction
                  intro hn'
                  apply hsz
                  rw [k3]
                  congr 1
                  omega
                · rw [k2] at q3
                  simp at q3
              · exact Or.inr (Or.inr ⟨q6, by omega⟩)
      exact ih (w + 1) m τ C V P (by omega) (by omega) hI2
