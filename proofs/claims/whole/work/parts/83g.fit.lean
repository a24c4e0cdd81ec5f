def SubOK (G : Gm) (χ τ : Nat → Nat → Int32) (C : Nat → List Int32) (V Q : Nat → Prop) (a : Nat → Int32) (i j : Nat) : Prop :=
  ∀ s, s < 6 → ∀ i' j', i ≤ i' → i' < j' → j' ≤ j → ¬ (i' = i ∧ j' = j) → CA χ τ C V (cO s i' j') (Sy G s (sg a i' j')) ∧ ∀ b, b < 2 → V (2 * cO s i' j' + b) → Q (2 * cO s i' j' + b)
theorem SubOK.frame {G : Gm} {χ τ χ' τ' : Nat → Nat → Int32} {C C' : Nat → List Int32} {V V' Q : Nat → Prop} {a : Nat → Int32} {i j s0 : Nat} (h : SubOK G χ τ C V Q a i j) (hs0 : s0 < 6) (hij : i < j) (hj : j ≤ 12) (k : Fr (cO s0 i j) χ τ C V χ' τ' C' V') : SubOK G χ' τ' C' V' Q a i j := by
  intro s hs i' j' h1 h2 h3 h4
  obtain ⟨q1, q2⟩ := h s hs i' j' h1 h2 h3 h4
  have hc := cO_lt hs h2 (show j' ≤ 12 by omega)
  have hne : cO s i' j' ≠ cO s0 i j := by
    intro e
    obtain ⟨_, e1, e2⟩ := cO_inj hs hs0 h2 hij e
    exact h4 ⟨e1, e2⟩
  refine ⟨q1.frame hc hne k, fun b hb hv => q2 b hb ?_⟩
  exact ((k.2 _ (by omega) (by omega) (by omega)).1).mp hv
/-- spans of the first b slots -/
def Spn (G : Gm) (r : Nat) (χ : Nat → Nat → Int32) (a : Nat → Int32) (i j b : Nat) (f t : Nat → Nat) : Prop :=
  ∀ q, q < b → χ 5 q = nI (f q) ∧ χ 6 q = nI (t q) ∧ i ≤ f q ∧ f q < t q ∧ t q ≤ j ∧ ¬ (f q = i ∧ t q = j) ∧ ∃ e, Sy G (sX G ((dv (gry G r)).getD q 0)) (sg a (f q) (t q)) e
theorem upd_lt {f : Nat → Nat} {b x q : Nat} (h : q < b) : (fun z => if z = b then x else f z) q = f q := by
  show (if q = b then x else f q) = f q
  rw [if_neg (by omega)]
theorem vf_congr {a : Nat → Int32} {l m : List Int32} {f t f' t' : Nat → Nat} (h : ∀ x, x ∈ m → x < 0 → f ((dv l).idxOf x) = f' ((dv l).idxOf x) ∧ t ((dv l).idxOf x) = t' ((dv l).idxOf x)) : m.flatMap (sub (vf a l f t)) = m.flatMap (sub (vf a l f' t')) := by
  apply fm_congr
  intro x hx
  unfold sub vf
  by_cases c : x < 0
  · rw [if_pos c, if_pos c, (h x hx c).1, (h x hx c).2]
  · rw [if_neg c, if_neg c]
theorem sub_last {j b : Nat} (h : b ≤ j) : nI j - nI b = nI (j - b) := n_sub h
theorem no_last {j b at_ : Nat} (hj : j ≤ 12) (hb : b ≤ 8) (ha : at_ ≤ 12) (h : j ≤ at_ + b) : ¬ nI at_ < nI j - nI b := by
  intro q
  have h1 := Int32.lt_iff_toInt_lt.mp q
  rw [pk_sub_toInt (by omega) (by omega), nI_toInt (by omega)] at h1
  omega
theorem m1_nle : ¬ (0 : Int32) ≤ -1 := by decide
theorem CA.or_no {χ τ : Nat → Nat → Int32} {C : Nat → List Int32} {V : Nat → Prop} {c : Nat} {A W : List Int32 → Prop} (h : CA χ τ C V c A) (k : ∀ e, ¬ W e) : CA χ τ C V c (fun e => A e ∨ W e) :=
  h.congr (fun e => ⟨fun x => Or.inl x, fun x => x.elim id (fun y => absurd y (k e))⟩)
theorem p_fit {N : Nat} (hN : 151 ≤ N) {γ : Nat → Nat → Int32} {G : Gm} (hG : GrOK γ G) {r i j : Nat} (hr : r < gR G) (hu : ¬ isU G r) (hij : i < j) (hj : j ≤ 12) {Q : Nat → Prop} (hQ : ∀ t, Q t → t ≠ 2 * cO (grs G r) i j ∧ t ≠ 2 * cO (grs G r) i j + 1) (a : Nat → Int32) :
    ∀ (d dd k at_ : Nat) (χ τ : Nat → Nat → Int32) (C : Nat → List Int32) (V : Nat → Prop) (f t : Nat → Nat) (A : List Int32 → Prop), k + d = (gry G r).length → d < dd → i + k ≤ at_ → at_ ≤ j → χ 2 = a → FS τ C (ar G) V Q → SubOK G χ τ C V Q a i j → Spn G r χ a i j (bd (gry G r) k) f t → sg a i at_ = ((gry G r).take k).flatMap (sub (vf a (gry G r) f t)) → CA χ τ C V (cO (grs G r) i j) A → (∀ e, Wf G r a i j (bd (gry G r) k) f t e → ¬ A e) →
      ∃ χ' τ' C' V', m_Ch_fit dd N χ γ τ (nI r) (nI i) (nI j) (nI k) (nI at_) (nI (bd (gry G r) k)) = some (χ', τ') ∧ FS τ' C' (ar G) V' Q ∧ CA χ' τ' C' V' (cO (grs G r) i j) (fun e => A e ∨ Wf G r a i j (bd (gry G r) k) f t e) ∧ Fr (cO (grs G r) i j) χ τ C V χ' τ' C' V' ∧ (∀ b, b ≠ 1 → b ≠ 5 → b ≠ 6 → χ' b = χ b) ∧ (∀ q, q < bd (gry G r) k → χ' 5 q = χ 5 q ∧ χ' 6 q = χ 6 q) ∧ ∀ t, Q t → C' t = C t := by
  have h4 := dv_le4 hG.1 hr
  have hR := hG.1.2.2.1
  obtain ⟨hrs, hne, h8, hok, _⟩ := hG.1.2.2.2.2 r hr
  have hs : grs G r < 6 := by
    have h2 := hG.1.1
    omega
  have hc := cO_lt hs hij hj
  intro d
  induction d with
  | zero =>
    intro dd k at_ χ τ C V f t A hk hdd hik haj h2 hS hB hP hcs hA hd
    obtain ⟨m, rfl⟩ : ∃ m, dd = m + 1 := ⟨dd - 1, by omega⟩
    have hk' : k = (gry G r).length := by omega
    subst hk'
    rw [bd_full] at hP hd ⊢
    rw [List.take_length] at hcs
    show ∃ χ' τ' C' V', f_Ch_fit_0 (m_Ch_fit m N) N χ γ τ (nI r) (nI i) (nI j) (nI (gry G r).length) (nI at_) (nI (dv (gry G r)).length) = some (χ', τ') ∧ _
    unfold f_Ch_fit_0
    rw [g_len hG hr, b1_some, n_sub (Nat.le_refl _), Nat.sub_self, nm_d, show nI 0 - 1 = (-1 : Int32) by decide, if_neg m1_nle]
    -- the split that the spans tell
    have hspl : sg a i at_ = (gry G r).flatMap (sub (asg (dv (gry G r)) ((List.range (dv (gry G r)).length).map (fun q => sg a (f q) (t q))))) := by
      rw [hcs]
      apply sub_congr
      intro x hx
      rw [asg_idx _ _ _ (by simp) hx, range_getD (fun q => sg a (f q) (t q)) (List.idxOf_lt_length_of_mem hx)]
      rfl
    by_cases e : at_ = j
    · subst e
      have hW : ∀ e, Wf G r a i at_ (dv (gry G r)).length f t e ↔ ∃ d, Pr G (dv (gry G r)) ((List.range (dv (gry G r)).length).map (fun q => sg a (f q) (t q))) d ∧ e = nI r :: d := by
        intro e
        constructor
        · rintro ⟨gs, d, g1, g2, g3, g4⟩
          have : gs = (List.range (dv (gry G r)).length).map (fun q => sg a (f q) (t q)) := by
            apply List.ext_getElem
            · simp [g1.1]
            · intro n n1 n2
              have := g2 n (by rw [← g1.1]; exact n1)
              rw [List.getD_eq_getElem?_getD, List.getElem?_eq_getElem n1] at this
              simp only [Option.getD_some] at this
              rw [this]
              simp
          exact ⟨d, this ▸ g3, g4⟩
        · rintro ⟨d, g3, g4⟩
          exact ⟨_, d, ⟨by simp, hspl⟩, fun q hq => range_getD _ hq, g3, g4⟩
      obtain ⟨χ', τ', C', V', o1, o2, o3, o4, o5, o6⟩ := p_addTrees hN hG hS (a := a) hr hu hij hj (f := f) (t := t) (fun q hq => by
          obtain ⟨p1, p2, p3, p4, p5, p6, p7⟩ := hP q hq
          obtain ⟨q1, q2⟩ := hB _ (dv_s6 hG.1 hr hq) (f q) (t q) p3 p4 p5 p6
          exact ⟨p1, p2, p4, by omega, q1, p7, q2⟩) ⟨by simp, hspl⟩ hQ hA (fun d hd' hA' => hd _ ((hW _).mpr ⟨d, hd', rfl⟩) hA')
      refine ⟨χ', τ', C', V', ?_, o2, o3.congr (fun e => ?_), o4, fun b b1 _ _ => o5 b b1, fun q _ => by rw [o5 5 (by decide), o5 6 (by decide)]; exact ⟨rfl, rfl⟩, o6⟩
      · rw [if_pos rfl, o1, b2_some]
      · rw [hW e]
    · refine ⟨χ, τ, C, V, ?_, hS, hA.or_no ?_, Fr.refl _ _ _ _ _, fun _ _ _ _ => rfl, fun _ _ => ⟨rfl, rfl⟩, fun _ _ => rfl⟩
      · rw [if_neg (fun q => e (nI_inj (by omega) (by omega) q))]
      · rintro z ⟨gs, d, g1, g2, g3, g4⟩
        have := fit_rest (k := (gry G r).length) (f := f) (t := t) (by omega) haj (by rw [List.take_length]; exact hcs) g1 (by rw [bd_full]; exact g2)
        rw [List.drop_length] at this
        have := congrArg List.length this
        rw [sg_len] at this
        simp at this
        omega
  | succ d ih =>
    intro dd k at_ χ τ C V f t A hk hdd hik haj h2 hS hB hP hcs hA hd
    obtain ⟨m, rfl⟩ : ∃ m, dd = m + 1 := ⟨dd - 1, by omega⟩
    have hkl : k < (gry G r).length := by omega
    have hbm := bd_le (gry G r) k
    show ∃ χ' τ' C' V', f_Ch_fit_0 (m_Ch_fit m N) N χ γ τ (nI r) (nI i) (nI j) (nI k) (nI at_) (nI (bd (gry G r) k)) = some (χ', τ') ∧ _
    -- no way at all
    have noWay : (∀ e, ¬ Wf G r a i j (bd (gry G r) k) f t e) → f_Ch_fit_0 (m_Ch_fit m N) N χ γ τ (nI r) (nI i) (nI j) (nI k) (nI at_) (nI (bd (gry G r) k)) = some (χ, τ) → ∃ χ' τ' C' V', f_Ch_fit_0 (m_Ch_fit m N) N χ γ τ (nI r) (nI i) (nI j) (nI k) (nI at_) (nI (bd (gry G r) k)) = some (χ', τ') ∧ FS τ' C' (ar G) V' Q ∧ CA χ' τ' C' V' (cO (grs G r) i j) (fun e => A e ∨ Wf G r a i j (bd (gry G r) k) f t e) ∧ Fr (cO (grs G r) i j) χ τ C V χ' τ' C' V' ∧ (∀ b, b ≠ 1 → b ≠ 5 → b ≠ 6 → χ' b = χ b) ∧ (∀ q, q < bd (gry G r) k → χ' 5 q = χ 5 q ∧ χ' 6 q = χ 6 q) ∧ ∀ t, Q t → C' t = C t := by
      intro hw he
      exact ⟨χ, τ, C, V, he, hS, hA.or_no hw, Fr.refl _ _ _ _ _, fun _ _ _ _ => rfl, fun _ _ => ⟨rfl, rfl⟩, fun _ _ => rfl⟩
    have nx : ∀ gs d, Spl (gry G r) (sg a i j) gs → (∀ q, q < bd (gry G r) k → gs.getD q [] = sg a (f q) (t q)) → Pr G (dv (gry G r)) gs d → ∃ n, 1 ≤ n ∧ at_ + n + ((gry G r).length - k - 1) ≤ j ∧ sg a at_ (at_ + n) = sub (asg (dv (gry G r)) gs) ((gry G r).getD k 0) :=
      fun gs d g1 g2 g3 => fit_next (by omega) haj hkl hcs g1 g2 (Pr_ne hG.1 g3)
    have start : f_Ch_fit_0 (m_Ch_fit m N) N χ γ τ (nI r) (nI i) (nI j) (nI k) (nI at_) (nI (bd (gry G r) k)) = if nI at_ < nI j - nI ((gry G r).length - k - 1) then bd1 (m_Gr_slotAt γ (nI r) (nI k)) fun r_7 => if r_7 < 0 then f_Ch_fit_71 (m_Ch_fit m N) N χ γ τ (nI r) (nI i) (nI j) (nI k) (nI at_) (nI (bd (gry G r) k)) else if r_7 < 4 then if nI (bd (gry G r) k) ≤ r_7 then bd1 (m_Gr_sortOfSlot γ (nI r) r_7) fun r_12 => if nI ((gry G r).length - k - 1) = 0 then l_Ch_fit_211 (m_Ch_fit m N) N γ (nI r) (nI i) (nI j) (nI k) (nI at_) (nI (bd (gry G r) k)) (nI j - nI ((gry G r).length - k - 1)) r_7 r_12 (fun s_self s_table => f_Ch_fit_272 (m_Ch_fit m N) N s_self γ s_table) N χ τ (nI j - nI ((gry G r).length - k - 1)) else nm (nI at_ + 1) fun v11_15 => l_Ch_fit_211 (m_Ch_fit m N) N γ (nI r) (nI i) (nI j) (nI k) (nI at_) (nI (bd (gry G r) k)) (nI j - nI ((gry G r).length - k - 1)) r_7 r_12 (fun s_self s_table => f_Ch_fit_272 (m_Ch_fit m N) N s_self γ s_table) N χ τ v11_15 else ck r_7 4 <| ck r_7 4 <| nm ((nI at_ + (χ 6 (Int32.toNatClampNeg r_7))) - (χ 5 (Int32.toNatClampNeg r_7))) fun v10_18 => if nI j - nI ((gry G r).length - k - 1) < v10_18 then f_Ch_fit_272 (m_Ch_fit m N) N χ γ τ else ck r_7 4 <| bd1 (m_Ch_hasSameSymbols N χ (χ 5 (Int32.toNatClampNeg r_7)) (nI at_) (v10_18 - nI at_)) fun r_21 => if r_21 = 0 then f_Ch_fit_272 (m_Ch_fit m N) N χ γ τ else bd2 (m_Ch_fit m N χ γ τ (nI r) (nI i) (nI j) (nI k + 1) v10_18 (nI (bd (gry G r) k))) fun s_self_24 s_table_25 => f_Ch_fit_272 (m_Ch_fit m N) N s_self_24 γ s_table_25 else f_Ch_fit_71 (m_Ch_fit m N) N χ γ τ (nI r) (nI i) (nI j) (nI k) (nI at_) (nI (bd (gry G r) k)) else some (χ, τ) := by
      unfold f_Ch_fit_0
      rw [g_len hG hr, b1_some, n_sub (by omega), n_sub1 (by omega), nm_d, if_pos (nI_pos' (by omega)), nm_d]
    by_cases room : j ≤ at_ + ((gry G r).length - k - 1)
    · refine noWay ?_ ?_
      · rintro z ⟨gs, d, g1, g2, g3, g4⟩
        obtain ⟨n, n1, n2, _⟩ := nx gs d g1 g2 g3
        omega
      · rw [start, if_neg (no_last hj (by omega) (by omega) room)]
    · rw [n_sub (show (gry G r).length - k - 1 ≤ j by omega), if_pos (of_eq_true (c_lt_t (by omega) (by omega))), g_slotAt hG hr hkl, b1_some] at start
      by_cases neg : (gry G r).getD k 0 < 0
      · rw [if_pos neg] at start
        have hidx := dv_lt hkl neg
        have hxd : (gry G r).getD k 0 ∈ dv (gry G r) := dv_mem.mpr ⟨getD_mem hkl, neg⟩
        rw [if_neg (nI_pos (by omega)), if_pos (of_eq_true (by rw [l_4]; exact c_lt_t (by omega) (by omega)))] at start
        by_cases known : (gry G r).getD k 0 ∈ dvs [] ((gry G r).take k)
        · -- a variable that has come already
          have hkn := idx_known known
          have hbs := bd_same hkl (fun q => q.2 known)
          generalize hsl : (dv (gry G r)).idxOf ((gry G r).getD k 0) = sl at *
          obtain ⟨p1, p2, p3, p4, p5, p6, p7⟩ := hP sl hkn
          have e4 : at_ + t sl - f sl - at_ = t sl - f sl := by omega
          rw [if_neg (nI_ge hkn (by omega)), ck_n (by omega) (by omega), ck_n (by omega) (by omega), nm_d, nI_clamp (by omega), p1, p2, nI_add, n_sub (by omega)] at start
          have hval : ∀ gs d, Spl (gry G r) (sg a i j) gs → (∀ q, q < bd (gry G r) k → gs.getD q [] = sg a (f q) (t q)) → Pr G (dv (gry G r)) gs d → at_ + (t sl - f sl) + ((gry G r).length - k - 1) ≤ j ∧ sg a at_ (at_ + (t sl - f sl)) = sg a (f sl) (t sl) := by
            intro gs d g1 g2 g3
            obtain ⟨n, n1, n2, n3⟩ := nx gs d g1 g2 g3
            have e : sub (asg (dv (gry G r)) gs) ((gry G r).getD k 0) = sg a (f sl) (t sl) := by
              unfold sub
              rw [if_pos neg, asg_idx _ _ _ g1.1 hxd, hsl]
              exact g2 sl hkn
            rw [e] at n3
            have := congrArg List.length n3
            rw [sg_len, sg_len] at this
            have e5 : n = t sl - f sl := by omega
            subst e5
            exact ⟨n2, n3⟩
          by_cases long : j - ((gry G r).length - k - 1) < at_ + t sl - f sl
          · refine noWay ?_ ?_
            · rintro z ⟨gs, d, g1, g2, g3, g4⟩
              have := (hval gs d g1 g2 g3).1
              omega
            · rw [start, if_pos (of_eq_true (c_lt_t long (by omega)))]
              rfl
          · rw [if_neg (of_eq_false (c_lt_f (by omega) (by omega))), ck_n (by omega) (by omega), n_sub (by omega), e4] at start
            rcases p_same (N := N) (by omega) (χ := χ) (u := f sl) (w := at_) (n := t sl - f sl) (by omega) (by omega) with ⟨s1, s2⟩ | ⟨s1, s2⟩
            · rw [s2, b1_some, if_neg (by decide), nI_1] at start
              rw [h2] at s1
              have es : sg a at_ (at_ + t sl - f sl) = sg a (f sl) (t sl) := by
                unfold sg
                rw [e4]
                exact s1.symm
              obtain ⟨χ', τ', C', V', o1, o2, o3, o4, o5, o6, o7⟩ := ih m (k + 1) (at_ + t sl - f sl) χ τ C V f t A (by omega) (by omega) (by omega) (by omega) h2 hS hB (by rw [hbs]; exact hP) (by
                  rw [take_snoc hkl, List.flatMap_append, ← hcs, sg_cat a (show i ≤ at_ by omega) (show at_ ≤ at_ + t sl - f sl by omega), es]
                  congr 1
                  simp only [List.flatMap_cons, List.flatMap_nil, List.append_nil]
                  unfold sub vf
                  rw [if_pos neg, hsl]) hA (by rw [hbs]; exact hd)
              rw [hbs] at o1 o3 o6
              refine ⟨χ', τ', C', V', ?_, o2, o3, o4, o5, o6, o7⟩
              rw [start, o1, b2_some]
              rfl
            · refine noWay ?_ ?_
              · rintro z ⟨gs, d, g1, g2, g3, g4⟩
                have := (hval gs d g1 g2 g3).2
                apply s1
                rw [h2]
                unfold sg at this
                rw [show at_ + (t sl - f sl) - at_ = t sl - f sl by omega] at this
                exact this.symm
              · rw [start, s2, b1_some, if_pos rfl]
                rfl
        · -- a new variable
          obtain ⟨hbn, hix⟩ := bd_new hkl ⟨neg, known⟩
          rw [hix] at start hidx
          rw [if_pos (nI_le (Nat.le_refl _) (by omega)), g_slotSort hG hr hidx, b1_some] at start
          have hxe : (dv (gry G r)).getD (bd (gry G r) k) 0 = (gry G r).getD k 0 := by
            rw [← hix]
            exact idx_getD hxd
          have hs6 := dv_s6 hG.1 hr hidx
          have hL2 : 2 ≤ (gry G r).length := by
            match hl : gry G r with
            | [] => exact absurd hl hne
            | [x] =>
              exfalso
              rw [hl] at neg hkl
              simp at hkl
              subst hkl
              exact hu ⟨x, neg, hl⟩
            | _ :: _ :: _ => simp
          -- the trees with the new part up to place e
          have mono : ∀ e z, Wf G r a i j (bd (gry G r) k + 1) (fun q => if q = bd (gry G r) k then at_ else f q) (fun q => if q = bd (gry G r) k then e else t q) z → Wf G r a i j (bd (gry G r) k) f t z := by
            rintro e z ⟨gs, d, g1, g2, g3, g4⟩
            refine ⟨gs, d, g1, fun q hq => ?_, g3, g4⟩
            have := g2 q (by omega)
            simp only at this
            rw [if_neg (by omega), if_neg (by omega)] at this
            exact this
          have loop : ∀ (w e n : Nat) (χ1 τ1 : Nat → Nat → Int32) (C1 : Nat → List Int32) (V1 : Nat → Prop), e + w = j - ((gry G r).length - k - 1) + 1 → w < n → at_ < e → χ1 2 = a → FS τ1 C1 (ar G) V1 Q → SubOK G χ1 τ1 C1 V1 Q a i j → (∀ q, q < bd (gry G r) k → χ1 5 q = χ 5 q ∧ χ1 6 q = χ 6 q) → CA χ1 τ1 C1 V1 (cO (grs G r) i j) (fun z => A z ∨ ∃ e', at_ < e' ∧ e' < e ∧ Wf G r a i j (bd (gry G r) k + 1) (fun q => if q = bd (gry G r) k then at_ else f q) (fun q => if q = bd (gry G r) k then e' else t q) z) →
              ∃ χ' τ' C' V', l_Ch_fit_211 (m_Ch_fit m N) N γ (nI r) (nI i) (nI j) (nI k) (nI at_) (nI (bd (gry G r) k)) (nI (j - ((gry G r).length - k - 1))) (nI (bd (gry G r) k)) (nI (sX G ((dv (gry G r)).getD (bd (gry G r) k) 0))) (fun s_self s_table => f_Ch_fit_272 (m_Ch_fit m N) N s_self γ s_table) n χ1 τ1 (nI e) = some (χ', τ') ∧ FS τ' C' (ar G) V' Q ∧ CA χ' τ' C' V' (cO (grs G r) i j) (fun z => A z ∨ ∃ e', at_ < e' ∧ e' < j - ((gry G r).length - k - 1) + 1 ∧ Wf G r a i j (bd (gry G r) k + 1) (fun q => if q = bd (gry G r) k then at_ else f q) (fun q => if q = bd (gry G r) k then e' else t q) z) ∧ Fr (cO (grs G r) i j) χ1 τ1 C1 V1 χ' τ' C' V' ∧ (∀ b, b ≠ 1 → b ≠ 5 → b ≠ 6 → χ' b = χ1 b) ∧ (∀ q, q < bd (gry G r) k → χ' 5 q = χ 5 q ∧ χ' 6 q = χ 6 q) ∧ ∀ t, Q t → C' t = C1 t := by
            intro w
            induction w with
            | zero =>
              intro e n χ1 τ1 C1 V1 he hn hae h21 hS1 hB1 hP1 hA1
              obtain ⟨n, rfl⟩ : ∃ m, n = m + 1 := ⟨n - 1, by omega⟩
              have : e = j - ((gry G r).length - k - 1) + 1 := by omega
              subst this
              refine ⟨χ1, τ1, C1, V1, ?_, hS1, hA1, Fr.refl _ _ _ _ _, fun _ _ _ _ => rfl, hP1, fun _ _ => rfl⟩
              unfold l_Ch_fit_211 f_Ch_fit_211
              rw [if_pos (of_eq_true (c_lt_t (by omega) (by omega)))]
              rfl
            | succ w ihw =>
              intro e n χ1 τ1 C1 V1 he hn hae h21 hS1 hB1 hP1 hA1
              obtain ⟨n, rfl⟩ : ∃ m, n = m + 1 := ⟨n - 1, by omega⟩
              have hprop : ¬ (at_ = i ∧ e = j) := by omega
              obtain ⟨⟨v, p, w1, w2, w3, w4⟩, _⟩ := hB1 _ hs6 at_ e (by omega) hae (by omega) hprop
              have hvle := w2.le
              have lstep : l_Ch_fit_211 (m_Ch_fit m N) N γ (nI r) (nI i) (nI j) (nI k) (nI at_) (nI (bd (gry G r) k)) (nI (j - ((gry G r).length - k - 1))) (nI (bd (gry G r) k)) (nI (sX G ((dv (gry G r)).getD (bd (gry G r) k) 0))) (fun s_self s_table => f_Ch_fit_272 (m_Ch_fit m N) N s_self γ s_table) (n + 1) χ1 τ1 (nI e) = if nI v ≤ 0 then l_Ch_fit_211 (m_Ch_fit m N) N γ (nI r) (nI i) (nI j) (nI k) (nI at_) (nI (bd (gry G r) k)) (nI (j - ((gry G r).length - k - 1))) (nI (bd (gry G r) k)) (nI (sX G ((dv (gry G r)).getD (bd (gry G r) k) 0))) (fun s_self s_table => f_Ch_fit_272 (m_Ch_fit m N) N s_self γ s_table) n χ1 τ1 (nI (e + 1)) else bd2 (m_Ch_fit m N (st2 (st2 χ1 5 (bd (gry G r) k) (nI at_)) 6 (bd (gry G r) k) (nI e)) γ τ1 (nI r) (nI i) (nI j) (nI (k + 1)) (nI e) (nI (bd (gry G r) k + 1))) fun s_self_10 s_table_11 => l_Ch_fit_211 (m_Ch_fit m N) N γ (nI r) (nI i) (nI j) (nI k) (nI at_) (nI (bd (gry G r) k)) (nI (j - ((gry G r).length - k - 1))) (nI (bd (gry G r) k)) (nI (sX G ((dv (gry G r)).getD (bd (gry G r) k) 0))) (fun s_self s_table => f_Ch_fit_272 (m_Ch_fit m N) N s_self γ s_table) n s_self_10 s_table_11 (nI (e + 1)) := by
                rw [show l_Ch_fit_211 (m_Ch_fit m N) N γ (nI r) (nI i) (nI j) (nI k) (nI at_) (nI (bd (gry G r) k)) (nI (j - ((gry G r).length - k - 1))) (nI (bd (gry G r) k)) (nI (sX G ((dv (gry G r)).getD (bd (gry G r) k) 0))) (fun s_self s_table => f_Ch_fit_272 (m_Ch_fit m N) N s_self γ s_table) (n + 1) χ1 τ1 (nI e) = f_Ch_fit_211 (m_Ch_fit m N) N (l_Ch_fit_211 (m_Ch_fit m N) N γ (nI r) (nI i) (nI j) (nI k) (nI at_) (nI (bd (gry G r) k)) (nI (j - ((gry G r).length - k - 1))) (nI (bd (gry G r) k)) (nI (sX G ((dv (gry G r)).getD (bd (gry G r) k) 0))) (fun s_self s_table => f_Ch_fit_272 (m_Ch_fit m N) N s_self γ s_table) n) (fun s_self s_table => f_Ch_fit_272 (m_Ch_fit m N) N s_self γ s_table) χ1 γ τ1 (nI r) (nI i) (nI j) (nI k) (nI at_) (nI (bd (gry G r) k)) (nI (j - ((gry G r).length - k - 1))) (nI (bd (gry G r) k)) (nI (sX G ((dv (gry G r)).getD (bd (gry G r) k) 0))) (nI e) from rfl]
                unfold f_Ch_fit_211
                rw [if_neg (of_eq_false (c_lt_f (by omega) (by omega))), p_waysOf hs6 hae (by omega), b1_some, w1, nm_d, nI_1, ck_n (by omega) (by omega), nm_d, ck_n (by omega) (by omega), nm_d, nI_clamp (by omega), nI_1, nI_1]
                rfl
              by_cases vz : v = 0
              · -- no tree of that part
                have hno : ∀ z, ¬ Wf G r a i j (bd (gry G r) k + 1) (fun q => if q = bd (gry G r) k then at_ else f q) (fun q => if q = bd (gry G r) k then e else t q) z := by
                  rintro z ⟨gs, d, g1, g2, g3, g4⟩
                  obtain ⟨F, _, F2⟩ := (Pr_cat (dv (gry G r)).length _ _ _ rfl g1.1).mp g3
                  have := F2 _ hidx
                  rw [g2 _ (by omega)] at this
                  simp only [if_true] at this
                  exact w2.zero.mp vz _ this
                obtain ⟨χ', τ', C', V', o1, o2, o3, o4, o5, o6, o7⟩ := ihw (e + 1) n χ1 τ1 C1 V1 (by omega) (by omega) (by omega) h21 hS1 hB1 hP1 (hA1.congr (fun z => by
                  constructor
                  · rintro (q | ⟨e', e1, e2, e3⟩)
                    · exact Or.inl q
                    · exact Or.inr ⟨e', e1, by omega, e3⟩
                  · rintro (q | ⟨e', e1, e2, e3⟩)
                    · exact Or.inl q
                    · by_cases ee : e' = e
                      · subst ee
                        exact absurd e3 (hno z)
                      · exact Or.inr ⟨e', e1, by omega, e3⟩))
                refine ⟨χ', τ', C', V', ?_, o2, o3, o4, o5, o6, o7⟩
                rw [lstep, if_pos (of_eq_true (c_le0_t vz))]
                exact o1
              · -- the recursion
                have hex : ∃ x, Sy G (sX G ((dv (gry G r)).getD (bd (gry G r) k) 0)) (sg a at_ e) x := by
                  apply Classical.byContradiction
                  intro hn'
                  exact vz (w2.zero.mpr (fun c hc' => hn' ⟨c, hc'⟩))
                have frS : Fr (cO (grs G r) i j) χ1 τ1 C1 V1 (st2 (st2 χ1 5 (bd (gry G r) k) (nI at_)) 6 (bd (gry G r) k) (nI e)) τ1 C1 V1 := ⟨fun z hz => by rw [st2_aj _ _ _ _ (by decide), st2_aj _ _ _ _ (by decide)], fun _ _ _ _ => ⟨Iff.rfl, rfl, Sam.refl _ _⟩⟩
                have hCA1 : CA (st2 (st2 χ1 5 (bd (gry G r) k) (nI at_)) 6 (bd (gry G r) k) (nI e)) τ1 C1 V1 (cO (grs G r) i j) (fun z => A z ∨ ∃ e', at_ < e' ∧ e' < e ∧ Wf G r a i j (bd (gry G r) k + 1) (fun q => if q = bd (gry G r) k then at_ else f q) (fun q => if q = bd (gry G r) k then e' else t q) z) := by
                  obtain ⟨v', p', x1, x2, x3, x4⟩ := hA1
                  exact ⟨v', p', by rw [st2_aj _ _ _ _ (by decide), st2_aj _ _ _ _ (by decide)]; exact x1, x2, x3, x4⟩
                obtain ⟨χ2, τ2, C2, V2, o1, o2, o3, o4, o5, o6, o7⟩ := ih m (k + 1) e (st2 (st2 χ1 5 (bd (gry G r) k) (nI at_)) 6 (bd (gry G r) k) (nI e)) τ1 C1 V1 (fun q => if q = bd (gry G r) k then at_ else f q) (fun q => if q = bd (gry G r) k then e else t q) (fun z => A z ∨ ∃ e', at_ < e' ∧ e' < e ∧ Wf G r a i j (bd (gry G r) k + 1) (fun q => if q = bd (gry G r) k then at_ else f q) (fun q => if q = bd (gry G r) k then e' else t q) z) (by omega) (by omega) (by omega) (by omega) (by rw [st2_a _ _ _ (by decide), st2_a _ _ _ (by decide)]; exact h21) hS1 (hB1.frame hs hij hj frS)
                  (by
                    rw [hbn]
                    intro q hq
                    by_cases qe : q = bd (gry G r) k
                    · subst qe
                      simp only [if_true]
                      refine ⟨by rw [st2_aj _ _ _ _ (by decide), st2_s], by rw [st2_s], by omega, hae, by omega, hprop, hex⟩
                    · simp only [if_neg qe]
                      obtain ⟨p1, p2, p3⟩ := hP q (by omega)
                      obtain ⟨y1, y2⟩ := hP1 q (by omega)
                      refine ⟨by rw [st2_aj _ _ _ _ (by decide), st2_k _ _ _ qe, y1]; exact p1, by rw [st2_k _ _ _ qe, st2_aj _ _ _ _ (by decide), y2]; exact p2, p3⟩)
                  (by
                    rw [take_snoc hkl, List.flatMap_append, sg_cat a (show i ≤ at_ by omega) (show at_ ≤ e by omega), hcs]
                    congr 1
                    · apply vf_congr
                      intro x hx hxn
                      have hm : x ∈ dvs [] ((gry G r).take k) := (dvs_mem _ _ _).mpr (Or.inr ⟨hx, hxn⟩)
                      have := idx_known hm
                      rw [if_neg (by omega), if_neg (by omega)]
                      exact ⟨rfl, rfl⟩
                    · simp only [List.flatMap_cons, List.flatMap_nil, List.append_nil]
                      unfold sub vf
                      rw [if_pos neg, hix]
                      simp only [if_true])
                  hCA1
                  (by
                    rw [hbn]
                    rintro z hz (q | ⟨e', e1, e2, gs', d', g1', g2', g3', g4'⟩)
                    · exact hd z (mono e z hz) q
                    · obtain ⟨gs, d, g1, g2, g3, g4⟩ := hz
                      rw [g4] at g4'
                      injection g4' with _ g5
                      have := (Pr_pre hR g3 g3' (a := []) (b := []) (by rw [g5])).2.1
                      subst this
                      have y1 := g2 (bd (gry G r) k) (by omega)
                      have y2 := g2' (bd (gry G r) k) (by omega)
                      simp only [if_true] at y1 y2
                      rw [y1] at y2
                      have := congrArg List.length y2
                      rw [sg_len, sg_len] at this
                      omega)
                rw [hbn] at o1 o3 o6
                obtain ⟨χ', τ', C', V', x1, x2, x3, x4, x5, x6, x7⟩ := ihw (e + 1) n χ2 τ2 C2 V2 (by omega) (by omega) (by omega) (by rw [o5 2 (by decide) (by decide) (by decide), st2_a _ _ _ (by decide), st2_a _ _ _ (by decide)]; exact h21) o2 ((hB1.frame hs hij hj frS).frame hs hij hj o4)
                  (fun q hq => by
                    obtain ⟨y1, y2⟩ := o6 q (by omega)
                    obtain ⟨y3, y4⟩ := hP1 q hq
                    refine ⟨?_, ?_⟩
                    · rw [y1, st2_aj _ _ _ _ (by decide), st2_k _ _ _ (by omega), y3]
                    · rw [y2, st2_k _ _ _ (by omega), st2_aj _ _ _ _ (by decide), y4])
                  (o3.congr (fun z => by
                    constructor
                    · rintro ((q | ⟨e', e1, e2, e3⟩) | q)
                      · exact Or.inl q
                      · exact Or.inr ⟨e', e1, by omega, e3⟩
                      · exact Or.inr ⟨e, hae, by omega, q⟩
                    · rintro (q | ⟨e', e1, e2, e3⟩)
                      · exact Or.inl (Or.inl q)
                      · by_cases ee : e' = e
                        · subst ee
                          exact Or.inr e3
                        · exact Or.inl (Or.inr ⟨e', e1, by omega, e3⟩)))
                refine ⟨χ', τ', C', V', ?_, x2, x3, (frS.trans o4).trans x4, fun b b1 b5 b6 => by rw [x5 b b1 b5 b6, o5 b b1 b5 b6, st2_a _ _ _ b6, st2_a _ _ _ b5], x6, fun s hs' => by rw [x7 s hs', o7 s hs']⟩
                rw [lstep, if_neg (of_eq_false (c_le0 (by omega) (by omega))), o1, b2_some]
                exact x1
          -- all of them together
          have allW : ∀ z, Wf G r a i j (bd (gry G r) k) f t z ↔ ∃ e', at_ < e' ∧ e' < j - ((gry G r).length - k - 1) + 1 ∧ Wf G r a i j (bd (gry G r) k + 1) (fun q => if q = bd (gry G r) k then at_ else f q) (fun q => if q = bd (gry G r) k then e' else t q) z := by
            intro z
            constructor
            · rintro ⟨gs, d, g1, g2, g3, g4⟩
              obtain ⟨n, n1, n2, n3⟩ := nx gs d g1 g2 g3
              refine ⟨at_ + n, by omega, by omega, gs, d, g1, fun q hq => ?_, g3, g4⟩
              by_cases qe : q = bd (gry G r) k
              · subst qe
                simp only [if_true]
                rw [n3]
                unfold sub
                rw [if_pos neg, asg_idx _ _ _ g1.1 hxd, hix]
              · simp only [if_neg qe]
                exact g2 q (by omega)
            · rintro ⟨e', _, _, h⟩
              exact mono e' z h
          have fin : ∀ e0, at_ < e0 → e0 ≤ j - ((gry G r).length - k - 1) + 1 → (∀ e', at_ < e' → e' < e0 → ∀ z, ¬ Wf G r a i j (bd (gry G r) k + 1) (fun q => if q = bd (gry G r) k then at_ else f q) (fun q => if q = bd (gry G r) k then e' else t q) z) → f_Ch_fit_0 (m_Ch_fit m N) N χ γ τ (nI r) (nI i) (nI j) (nI k) (nI at_) (nI (bd (gry G r) k)) = l_Ch_fit_211 (m_Ch_fit m N) N γ (nI r) (nI i) (nI j) (nI k) (nI at_) (nI (bd (gry G r) k)) (nI (j - ((gry G r).length - k - 1))) (nI (bd (gry G r) k)) (nI (sX G ((dv (gry G r)).getD (bd (gry G r) k) 0))) (fun s_self s_table => f_Ch_fit_272 (m_Ch_fit m N) N s_self γ s_table) N χ τ (nI e0) → ∃ χ' τ' C' V', f_Ch_fit_0 (m_Ch_fit m N) N χ γ τ (nI r) (nI i) (nI j) (nI k) (nI at_) (nI (bd (gry G r) k)) = some (χ', τ') ∧ FS τ' C' (ar G) V' Q ∧ CA χ' τ' C' V' (cO (grs G r) i j) (fun e => A e ∨ Wf G r a i j (bd (gry G r) k) f t e) ∧ Fr (cO (grs G r) i j) χ τ C V χ' τ' C' V' ∧ (∀ b, b ≠ 1 → b ≠ 5 → b ≠ 6 → χ' b = χ b) ∧ (∀ q, q < bd (gry G r) k → χ' 5 q = χ 5 q ∧ χ' 6 q = χ 6 q) ∧ ∀ t, Q t → C' t = C t := by
            intro e0 h1 h3 h5 he
            obtain ⟨χ', τ', C', V', o1, o2, o3, o4, o5, o6, o7⟩ := loop (j - ((gry G r).length - k - 1) + 1 - e0) e0 N χ τ C V (by omega) (by omega) h1 h2 hS hB (fun _ _ => ⟨rfl, rfl⟩) (hA.or_no (fun z => by
              rintro ⟨e', e1, e2, e3⟩
              exact h5 e' e1 e2 z e3))
            refine ⟨χ', τ', C', V', by rw [he]; exact o1, o2, o3.congr (fun z => ?_), o4, o5, o6, o7⟩
            rw [allW z]
          by_cases lastS : (gry G r).length - k - 1 = 0
          · refine fin (j - ((gry G r).length - k - 1)) (by omega) (by omega) ?_ ?_
            · rintro e' e1 e2 z ⟨gs, d, g1, g2, g3, g4⟩
              obtain ⟨n, n1, n2, n3⟩ := nx gs d g1 (fun q hq => by
                have := g2 q (by omega)
                simp only [if_neg (show ¬ q = bd (gry G r) k by omega)] at this
                exact this) g3
              have y := g2 (bd (gry G r) k) (by omega)
              simp only [if_true] at y
              have e5 : sub (asg (dv (gry G r)) gs) ((gry G r).getD k 0) = sg a at_ e' := by
                unfold sub
                rw [if_pos neg, asg_idx _ _ _ g1.1 hxd, hix]
                exact y
              have rest := fit_rest (k := k) (f := f) (t := t) (by omega) haj hcs g1 (fun q hq => by
                have := g2 q (by omega)
                simp only [if_neg (show ¬ q = bd (gry G r) k by omega)] at this
                exact this)
              rw [drop_getD hkl, List.flatMap_cons, e5, List.drop_eq_nil_of_le (by omega)] at rest
              have := congrArg List.length rest
              simp only [List.flatMap_nil, List.append_nil, sg_len] at this
              omega
            · rw [start, lastS, if_pos nI_0]
          · refine fin (at_ + 1) (by omega) (by omega) (fun e' e1 e2 => by omega) ?_
            rw [start, if_neg (nI_ne0 (by omega) (by omega)), nm_d, nI_1]
      · -- a constant
        rw [if_neg neg, if_pos (of_eq_true m1_neg)] at start
        have hbs := bd_same hkl (fun q => neg q.1)
        unfold f_Ch_fit_71 at start
        rw [p_symbolIn (show at_ < 12 by omega), b1_some, g_sym hG hr hkl, b1_some, h2] at start
        by_cases eqs : a at_ = (gry G r).getD k 0
        · rw [if_pos eqs, nI_1, nI_1] at start
          obtain ⟨χ', τ', C', V', o1, o2, o3, o4, o5, o6, o7⟩ := ih m (k + 1) (at_ + 1) χ τ C V f t A (by omega) (by omega) (by omega) (by omega) h2 hS hB (by rw [hbs]; exact hP) (by
              rw [take_snoc hkl, List.flatMap_append, ← hcs, sg_cat a (show i ≤ at_ by omega) (show at_ ≤ at_ + 1 by omega), sg_one]
              congr 1
              simp only [List.flatMap_cons, List.flatMap_nil, List.append_nil]
              unfold sub
              rw [if_neg neg, eqs]) hA (by rw [hbs]; exact hd)
          rw [hbs] at o1 o3 o6
          refine ⟨χ', τ', C', V', ?_, o2, o3, o4, o5, o6, o7⟩
          rw [start, o1, b2_some]
          rfl
        · refine noWay ?_ ?_
          · rintro z ⟨gs, d, g1, g2, g3, g4⟩
            obtain ⟨n, n1, n2, n3⟩ := nx gs d g1 g2 g3
            unfold sub at n3
            rw [if_neg neg, sg_cons a (by omega)] at n3
            injection n3 with n3 _
            exact eqs n3
          · rw [start, if_neg eqs]
            rfl
