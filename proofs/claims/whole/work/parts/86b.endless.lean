/-- by chains, or already there -/
def rs (G : Gm) (x y : Nat) : Prop := x = y ∨ Rq G (gR G) x y
theorem q_reaches {μ : Nat → Nat → Int32} {G : Gm} (hS : gS G ≤ 6) (hC : CmOK μ G) {x y : Nat} (hx : x < gS G) (hy : y < gS G) : (rs G x y ∧ m_Md_reaches μ (nI x) (nI y) = some 1) ∨ (¬ rs G x y ∧ m_Md_reaches μ (nI x) (nI y) = some 0) := by
  unfold m_Md_reaches f_Md_reaches_0
  by_cases e : x = y
  · left
    refine ⟨Or.inl e, ?_⟩
    rw [if_pos (by rw [e])]
  · rw [if_neg (fun h => e (nI_inj (by omega) (by omega) h)), l_6, pk_mul, nI_add, ck_n (by omega) (by omega), nI_clamp (by omega)]
    have := hC x y hx hy
    unfold cm at this
    by_cases c : μ 18 (6 * x + y) = 0
    · right
      rw [if_pos c]
      refine ⟨?_, rfl⟩
      rintro (h | h)
      · exact e h
      · exact (this.mpr h) c
    · left
      rw [if_neg c]
      exact ⟨Or.inr (this.mp c), rfl⟩
/-- sort d makes s endless -/
def Ed (G : Gm) (w : Nat → Nat) (s d : Nat) : Prop := (rs G s d ∧ w d = 1000002) ∨ (w d ≠ 0 ∧ ∃ c, c < gS G ∧ rs G s c ∧ Rq G (gR G) c c ∧ rs G c d)
theorem mW_0 {v : Nat} (h : v ≤ 1000002) : mW v = 0 ↔ v = 0 := by
  constructor
  · intro e
    by_cases c : v = 1000002
    · rw [c, mW_E] at e
      exact absurd e (by decide)
    · rw [mW_n c] at e
      apply Classical.byContradiction
      intro hn
      exact nI_ne0 (by omega) (by omega) e
  · intro e
    rw [e, mW_n (by omega), nI_0]
theorem mW_3 {v : Nat} (h : v ≤ 1000002) : mW v = -3 ↔ v = 1000002 := by
  constructor
  · intro e
    apply Classical.byContradiction
    intro c
    rw [mW_n c] at e
    exact n_m3 (by omega) e
  · intro e
    rw [e, mW_E]
theorem q_end45 {N : Nat} {μ : Nat → Nat → Int32} {G : Gm} (hS : gS G ≤ 6) (h01 : μ 0 1 = nI (gS G)) (hC : CmOK μ G) {s d0 v : Nat} (hs : s < gS G) (hd : d0 < gS G) (hv : v ≤ 1000002) (hw : μ 16 d0 = mW v) (kx : Int32 → Option Int32) : ∀ (m c n : Nat), c + m = gS G → m < n →
    (l_Md_isEndless_45 N μ (nI s) (nI d0) kx n 1 (nI c) = kx 1) ∧ (((v ≠ 0 ∧ ∃ z, c ≤ z ∧ z < gS G ∧ rs G s z ∧ Rq G (gR G) z z ∧ rs G z d0) ∧ l_Md_isEndless_45 N μ (nI s) (nI d0) kx n 0 (nI c) = kx 1) ∨ ((¬ (v ≠ 0 ∧ ∃ z, c ≤ z ∧ z < gS G ∧ rs G s z ∧ Rq G (gR G) z z ∧ rs G z d0)) ∧ l_Md_isEndless_45 N μ (nI s) (nI d0) kx n 0 (nI c) = kx 0)) := by
  intro m
  induction m with
  | zero =>
    intro c n hc hn
    obtain ⟨n, rfl⟩ : ∃ k, n = k + 1 := ⟨n - 1, by omega⟩
    have e : ∀ x : Int32, l_Md_isEndless_45 N μ (nI s) (nI d0) kx (n + 1) x (nI c) = kx x := by
      intro x
      unfold l_Md_isEndless_45 f_Md_isEndless_45
      rw [h01, if_pos (nI_le (by omega) (by omega))]
    exact ⟨e 1, Or.inr ⟨fun ⟨_, z, z1, z2, _⟩ => by omega, e 0⟩⟩
  | succ m ih =>
    intro c n hc hn
    obtain ⟨n, rfl⟩ : ∃ k, n = k + 1 := ⟨n - 1, by omega⟩
    have hcn : c < gS G := by omega
    obtain ⟨i1, i2⟩ := ih (c + 1) n (by omega) (by omega)
    constructor
    · unfold l_Md_isEndless_45 f_Md_isEndless_45
      rw [h01, if_neg (nI_ge hcn (by omega)), if_neg (by decide), nm_d, nI_1]
      exact i1
    · obtain ⟨X, hX⟩ : ∃ X, X = l_Md_isEndless_45 N μ (nI s) (nI d0) kx (n + 1) 0 (nI c) := ⟨_, rfl⟩
      rw [← hX]
      have step : X = f_Md_isEndless_45 N (l_Md_isEndless_45 N μ (nI s) (nI d0) kx n) kx μ (nI s) 0 (nI d0) (nI c) := hX
      unfold f_Md_isEndless_45 at step
      rw [h01, if_neg (nI_ge hcn (by omega)), if_pos rfl, ck_n (by omega) (by omega), nI_clamp (by omega), hw] at step
      simp only [nm_x, nI_1] at step
      -- c is none
      have no : ¬ (v ≠ 0 ∧ rs G s c ∧ Rq G (gR G) c c ∧ rs G c d0) → X = l_Md_isEndless_45 N μ (nI s) (nI d0) kx n 0 (nI (c + 1)) → ((v ≠ 0 ∧ ∃ z, c ≤ z ∧ z < gS G ∧ rs G s z ∧ Rq G (gR G) z z ∧ rs G z d0) ∧ X = kx 1) ∨ ((¬ (v ≠ 0 ∧ ∃ z, c ≤ z ∧ z < gS G ∧ rs G s z ∧ Rq G (gR G) z z ∧ rs G z d0)) ∧ X = kx 0) := by
        intro hno he
        rw [he]
        rcases i2 with ⟨⟨x1, z, z1, z2⟩, x2⟩ | ⟨x1, x2⟩
        · exact Or.inl ⟨⟨x1, z, by omega, z2⟩, x2⟩
        · refine Or.inr ⟨?_, x2⟩
          rintro ⟨y1, z, z1, z2, z3, z4, z5⟩
          by_cases e : z = c
          · subst e
            exact hno ⟨y1, z3, z4, z5⟩
          · exact x1 ⟨y1, z, by omega, z2, z3, z4, z5⟩
      by_cases c1 : mW v = 0
      · rw [if_pos c1] at step
        exact no (fun h => h.1 ((mW_0 hv).mp c1)) step
      · rw [if_neg c1] at step
        have v0 : v ≠ 0 := fun h => c1 ((mW_0 hv).mpr h)
        rcases q_reaches hS hC hs hcn with ⟨r1, e1⟩ | ⟨r1, e1⟩
        · rw [e1, b1_some, if_neg (by decide), l_6, pk_mul, nI_add, ck_n (by omega) (by omega), nI_clamp (by omega)] at step
          have hcc := hC c c hcn hcn
          unfold cm at hcc
          by_cases c2 : μ 18 (6 * c + c) = 0
          · rw [if_pos c2] at step
            exact no (fun h => (hcc.mpr h.2.2.1) c2) step
          · rw [if_neg c2] at step
            rcases q_reaches hS hC hcn hd with ⟨r2, e2⟩ | ⟨r2, e2⟩
            · rw [e2, b1_some, if_neg (by decide), i1] at step
              exact Or.inl ⟨⟨v0, c, Nat.le_refl _, hcn, r1, hcc.mp c2, r2⟩, step⟩
            · rw [e2, b1_some, if_pos rfl] at step
              exact no (fun h => r2 h.2.2.2) step
        · rw [e1, b1_some, if_pos rfl] at step
          exact no (fun h => r1 h.2.1) step
theorem q_end4 {N : Nat} (hN : 8 ≤ N) {μ : Nat → Nat → Int32} {G : Gm} (hS : gS G ≤ 6) (h01 : μ 0 1 = nI (gS G)) (hC : CmOK μ G) {s : Nat} (hs : s < gS G) {w : Nat → Nat} (hw : ∀ d, d < gS G → w d ≤ 1000002 ∧ μ 16 d = mW (w d)) (kx : Int32 → Option Int32) : ∀ (m d n : Nat), d + m = gS G → m < n →
    (l_Md_isEndless_4 N μ (nI s) kx n 1 (nI d) = kx 1) ∧ (((∃ z, d ≤ z ∧ z < gS G ∧ Ed G w s z) ∧ l_Md_isEndless_4 N μ (nI s) kx n 0 (nI d) = kx 1) ∨ ((¬ ∃ z, d ≤ z ∧ z < gS G ∧ Ed G w s z) ∧ l_Md_isEndless_4 N μ (nI s) kx n 0 (nI d) = kx 0)) := by
  intro m
  induction m with
  | zero =>
    intro d n hd hn
    obtain ⟨n, rfl⟩ : ∃ k, n = k + 1 := ⟨n - 1, by omega⟩
    have e : ∀ x : Int32, l_Md_isEndless_4 N μ (nI s) kx (n + 1) x (nI d) = kx x := by
      intro x
      unfold l_Md_isEndless_4 f_Md_isEndless_4
      rw [h01, if_pos (nI_le (by omega) (by omega))]
    exact ⟨e 1, Or.inr ⟨fun ⟨z, z1, z2, _⟩ => by omega, e 0⟩⟩
  | succ m ih =>
    intro d n hd hn
    obtain ⟨n, rfl⟩ : ∃ k, n = k + 1 := ⟨n - 1, by omega⟩
    have hdn : d < gS G := by omega
    obtain ⟨hv, hwd⟩ := hw d hdn
    obtain ⟨i1, i2⟩ := ih (d + 1) n (by omega) (by omega)
    obtain ⟨k1, k2⟩ := q_end45 (N := N) hS h01 hC hs hdn hv hwd (fun v2 => f_Md_isEndless_115 N (l_Md_isEndless_4 N μ (nI s) kx n) kx μ (nI s) v2 (nI d)) (gS G) 0 N (by omega) (by omega)
    rw [nI_0] at k1 k2
    have go : ∀ x : Int32, f_Md_isEndless_115 N (l_Md_isEndless_4 N μ (nI s) kx n) kx μ (nI s) x (nI d) = l_Md_isEndless_4 N μ (nI s) kx n x (nI (d + 1)) := by
      intro x
      unfold f_Md_isEndless_115
      rw [nm_d, nI_1]
    rw [go] at k1
    simp only [go] at k2
    constructor
    · unfold l_Md_isEndless_4 f_Md_isEndless_4
      rw [h01, if_neg (nI_ge hdn (by omega)), if_neg (by decide)]
      simp only [go]
      simp only [go] at k1
      exact k1.trans i1
    · obtain ⟨X, hX⟩ : ∃ X, X = l_Md_isEndless_4 N μ (nI s) kx (n + 1) 0 (nI d) := ⟨_, rfl⟩
      rw [← hX]
      have step : X = f_Md_isEndless_4 N (l_Md_isEndless_4 N μ (nI s) kx n) kx μ (nI s) 0 (nI d) := hX
      unfold f_Md_isEndless_4 at step
      rw [h01, if_neg (nI_ge hdn (by omega)), if_pos rfl] at step
      simp only [go] at step k1
      have yes : Ed G w s d → X = kx 1 → ((∃ z, d ≤ z ∧ z < gS G ∧ Ed G w s z) ∧ X = kx 1) ∨ ((¬ ∃ z, d ≤ z ∧ z < gS G ∧ Ed G w s z) ∧ X = kx 0) := fun h he => Or.inl ⟨⟨d, Nat.le_refl _, hdn, h⟩, he⟩
      have zero : ¬ (rs G s d ∧ w d = 1000002) → X = l_Md_isEndless_45 N μ (nI s) (nI d) (fun v2 => l_Md_isEndless_4 N μ (nI s) kx n v2 (nI (d + 1))) N 0 0 → ((∃ z, d ≤ z ∧ z < gS G ∧ Ed G w s z) ∧ X = kx 1) ∨ ((¬ ∃ z, d ≤ z ∧ z < gS G ∧ Ed G w s z) ∧ X = kx 0) := by
        intro hno he
        rcases k2 with ⟨⟨x1, z, _, z2, z3⟩, x2⟩ | ⟨x1, x2⟩
        · exact yes (Or.inr ⟨x1, z, z2, z3⟩) (he.trans (x2.trans i1))
        · have he' := he.trans x2
          rw [he']
          rcases i2 with ⟨⟨z, z1, z2⟩, y2⟩ | ⟨y1, y2⟩
          · exact Or.inl ⟨⟨z, by omega, z2⟩, y2⟩
          · refine Or.inr ⟨?_, y2⟩
            rintro ⟨z, z1, z2, z3⟩
            by_cases e : z = d
            · subst e
              rcases z3 with z3 | ⟨z4, c, c1, c2⟩
              · exact hno z3
              · exact x1 ⟨z4, c, by omega, c1, c2⟩
            · exact y1 ⟨z, by omega, z2, z3⟩
      rcases q_reaches hS hC hs hdn with ⟨r1, e1⟩ | ⟨r1, e1⟩
      · rw [e1, b1_some, if_neg (by decide), ck_n (by omega) (by omega), nI_clamp (by omega), hwd] at step
        by_cases c1 : mW (w d) = -3
        · rw [if_pos c1] at step
          exact yes (Or.inl ⟨r1, (mW_3 hv).mp c1⟩) (step.trans (k1.trans i1))
        · rw [if_neg c1] at step
          exact zero (fun h => c1 ((mW_3 hv).mpr h.2)) step
      · rw [e1, b1_some, if_pos rfl] at step
        exact zero (fun h => r1 h.1) step
theorem q_isEndless {N : Nat} (hN : 8 ≤ N) {μ : Nat → Nat → Int32} {G : Gm} (hS : gS G ≤ 6) (h01 : μ 0 1 = nI (gS G)) (hC : CmOK μ G) {s : Nat} (hs : s < gS G) {w : Nat → Nat} (hw : ∀ d, d < gS G → w d ≤ 1000002 ∧ μ 16 d = mW (w d)) : ((∃ z, z < gS G ∧ Ed G w s z) ∧ m_Md_isEndless N μ (nI s) = some 1) ∨ ((¬ ∃ z, z < gS G ∧ Ed G w s z) ∧ m_Md_isEndless N μ (nI s) = some 0) := by
  obtain ⟨_, k2⟩ := q_end4 hN hS h01 hC hs hw (fun v2 => f_Md_isEndless_121 N μ v2) (gS G) 0 N (by omega) (by omega)
  rw [nI_0] at k2
  unfold m_Md_isEndless f_Md_isEndless_0
  rcases k2 with ⟨⟨z, _, z2⟩, x⟩ | ⟨h, x⟩
  · left
    refine ⟨⟨z, z2⟩, x.trans ?_⟩
    unfold f_Md_isEndless_121
    exact cb_1 _
  · right
    refine ⟨fun ⟨z, z1, z2⟩ => h ⟨z, by omega, z1, z2⟩, x.trans ?_⟩
    unfold f_Md_isEndless_121
    exact cb_0 _
theorem rs_chain {G : Gm} {x y : Nat} (h : rs G x y) : ∃ u, Pv G x u ∧ pe G x u = y := by
  rcases h with h | h
  · exact ⟨[], trivial, h⟩
  · obtain ⟨u, _, u2, u3⟩ := Rq_full.mp h
    exact ⟨u, u2, u3⟩
theorem chain_rs {G : Gm} {x : Nat} {u : List Nat} (h : Pv G x u) : rs G x (pe G x u) := by
  by_cases e : u = []
  · subst e
    exact Or.inl rfl
  · exact Or.inr (Rq_full.mpr ⟨u, e, h, rfl⟩)
/-- what isEndless tells -/
theorem Ed_inf {G : Gm} {w : Nat → Nat} {y : List Int32} (hw : ∀ d, d < gS G → Cnt (Bs G d y) (w d)) {s z : Nat} (hz : z < gS G) (h : Ed G w s z) : Inf (Sy G s y) := by
  rcases h with ⟨h1, h2⟩ | ⟨h1, c, c1, c2, c3, c4⟩
  · obtain ⟨u, u1, u2⟩ := rs_chain h1
    have hI : Inf (Bs G z y) := by
      have := hw z hz
      rw [h2] at this
      rcases this with ⟨l, _, _, h⟩ | ⟨_, h⟩
      · omega
      · exact h
    refine Sy_inf_chain u s u1 ?_
    rw [u2]
    exact hI.mono (fun c hc => Bs_Sy hc)
  · have hex : ∃ x, Bs G z y x := by
      apply Classical.byContradiction
      intro hn
      exact h1 ((hw z hz).zero.mpr (fun x hx => hn ⟨x, hx⟩))
    obtain ⟨x, hx⟩ := hex
    obtain ⟨u, u1, u2⟩ := rs_chain c2
    obtain ⟨v, v1, v2⟩ := rs_chain c4
    obtain ⟨b, b1, b2, b3⟩ := Rq_full.mp c3
    have hc : Sy G c y (v.map nI ++ x) := Sy_chain v c v1 (by rw [v2]; exact Bs_Sy hx)
    exact Loop_inf ⟨u, b, u1, by rw [u2]; exact b2, by rw [u2]; exact b3, b1, _, by rw [u2]; exact hc⟩
theorem pe_ltS {G : Gm} (h : GOK G) : ∀ (u : List Nat) (s : Nat), s < gS G → Pv G s u → pe G s u < gS G
  | [], _, hs, _ => hs
  | r :: u, _, _, k => pe_ltS h u (uS G r) (uS_lt h k.1 k.2.1) k.2.2.2
theorem Pv_cycleS {G : Gm} (h : GOK G) {s : Nat} (hs : s < gS G) {u : List Nat} (k : Pv G s u) (hu : gS G ≤ u.length) : ∃ a b c, u = a ++ (b ++ c) ∧ b ≠ [] ∧ pe G (pe G s a) b = pe G s a := by
  apply Classical.byContradiction
  intro hn
  have hq : ∀ i, pe G s (u.take i) < gS G := by
    intro i
    have h1 : Pv G s (u.take i) := by
      rw [← List.take_append_drop i u] at k
      exact ((Pv_app _ _ _).mp k).1
    exact pe_ltS h _ s hs h1
  have hd : ((List.range (gS G + 1)).map (fun i => pe G s (u.take i))).Nodup := by
    have key : ∀ i j, i < j → j ≤ gS G → pe G s (u.take i) ≠ pe G s (u.take j) := by
      intro i j hij hj e
      apply hn
      refine ⟨u.take i, (u.drop i).take (j - i), u.drop j, ?_, ?_, ?_⟩
      · have e1 : u.drop j = (u.drop i).drop (j - i) := by rw [List.drop_drop]; congr 1; omega
        rw [e1, List.take_append_drop, List.take_append_drop]
      · intro e0
        have := congrArg List.length e0
        simp only [List.length_take, List.length_drop, List.length_nil] at this
        omega
      · rw [← pe_app]
        have e2 : u.take i ++ (u.drop i).take (j - i) = u.take j := by
          have : j = i + (j - i) := by omega
          rw [this, List.take_add]
          congr 2
          omega
        rw [e2, e]
    refine nd_map _ List.nodup_range (fun i j hi hj e => ?_)
    rw [List.mem_range] at hi hj
    rcases Nat.lt_trichotomy i j with c | c | c
    · exact absurd e (key i j c (by omega))
    · exact c
    · exact absurd e.symm (key j i c (by omega))
  have hl := nd_sub (m := List.range (gS G)) hd (fun c hc => by
    obtain ⟨i, _, rfl⟩ := List.mem_map.mp hc
    exact List.mem_range.mpr (hq i))
  simp at hl
  omega
theorem Ed_no {G : Gm} (hG : GOK G) {w : Nat → Nat} {y : List Int32} (hw : ∀ d, d < gS G → Cnt (Bs G d y) (w d)) {s : Nat} (hs : s < gS G) (h : ¬ ∃ z, z < gS G ∧ Ed G w s z) {c : List Int32} (hc : Sy G s y c) : Ua G (gS G) s y c := by
  obtain ⟨u, b, u1, u2, u3⟩ := Sy_path c.length s c (Nat.le_refl _) hc
  refine ⟨u, b, u1, ?_, u2, u3⟩
  apply Classical.byContradiction
  intro hn
  obtain ⟨p, q, t, rfl, p1, p3⟩ := Pv_cycleS hG hs u1 (by omega)
  have k := u1
  rw [Pv_app, Pv_app] at k
  obtain ⟨k1, k2, k3⟩ := k
  apply h
  have hend := pe_ltS hG _ s hs u1
  refine ⟨pe G s (p ++ (q ++ t)), hend, Or.inr ⟨?_, pe G s p, pe_ltS hG p s hs k1, chain_rs k1, Rq_full.mpr ⟨q, p1, k2, p3⟩, ?_⟩⟩
  · intro h0
    exact (hw _ hend).zero.mp h0 b u2
  · have := chain_rs (G := G) (x := pe G s p) (u := t) (by rw [p3] at k3; exact k3)
    rw [pe_app, pe_app, p3]
    exact this
