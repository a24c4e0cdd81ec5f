/-! unit rules (one symbol, a variable), chains of them; how large the two least trees can be -/
def GOK (G : Gm) : Prop := gS G ≤ 6 ∧ gV G ≤ 20 ∧ gR G ≤ 30 ∧ (∀ v, v < gV G → gvs G v < gS G) ∧ ∀ r, r < gR G → grs G r < gS G ∧ gry G r ≠ [] ∧ (gry G r).length ≤ 8 ∧ (∀ x, x ∈ gry G r → okSym (gV G) x) ∧ ((gry G r).filter (fun x => decide (x < 0))).length ≤ 4
theorem okSym_sX {G : Gm} (h : GOK G) {x : Int32} (k : okSym (gV G) x) (n : x < 0) : sX G x < gS G := by
  rcases k with ⟨c, hc, rfl⟩ | ⟨v, hv, rfl⟩
  · exact absurd n (nI_pos (by omega))
  · have := h.2.1
    unfold sX
    rw [vI_vS (by omega)]
    exact h.2.2.2.1 v hv
def isU (G : Gm) (r : Nat) : Prop := ∃ x : Int32, x < 0 ∧ gry G r = [x]
def uS (G : Gm) (r : Nat) : Nat := sX G ((gry G r).headD 0)
theorem uS_lt {G : Gm} (h : GOK G) {r : Nat} (hr : r < gR G) (k : isU G r) : uS G r < gS G := by
  obtain ⟨x, hx, e⟩ := k
  unfold uS
  have := (h.2.2.2.2 r hr).2.2.2.1 x (by rw [e]; simp)
  rw [e]
  exact okSym_sX h this hx
theorem okSym_sX6 {G : Gm} (h : GOK G) {x : Int32} (k : okSym (gV G) x) (n : x < 0) : sX G x < 6 := by
  have := okSym_sX h k n
  have := h.1
  omega
theorem uS_lt6 {G : Gm} (h : GOK G) {r : Nat} (hr : r < gR G) (k : isU G r) : uS G r < 6 := by
  have := uS_lt h hr k
  have := h.1
  omega
theorem dv_one {x : Int32} (h : x < 0) : dv [x] = [x] := by
  simp [dv, dvs, h]
theorem Tr_unit {G : Gm} {r : Nat} (k : isU G r) {y c : List Int32} : Tr G r y c ↔ ∃ d, Sy G (uS G r) y d ∧ c = nI r :: d := by
  obtain ⟨x, hx, e⟩ := k
  unfold Tr uS Spl
  rw [e, dv_one hx]
  constructor
  · rintro ⟨gs, d, ⟨h1, h2⟩, h3, h4⟩
    match gs, h1, h2, h3 with
    | [g], _, h2, ⟨a, b, k1, k2, k3⟩ =>
      have e2 : y = g := by
        rw [h2]
        simp [sub, asg, hx]
      have e3 : b = [] := k2
      refine ⟨d, ?_, h4⟩
      rw [k3, e3, List.append_nil, e2]
      exact k1
    | [], h1, _, _ => simp at h1
    | _ :: _ :: _, h1, _, _ => simp at h1
  · rintro ⟨d, h1, h2⟩
    refine ⟨[y], d, ⟨rfl, by simp [sub, asg, hx]⟩, ⟨d, [], h1, rfl, by simp⟩, h2⟩
/-- leaves, and trees by rules that are no unit rules -/
def Bs (G : Gm) (s : Nat) (y c : List Int32) : Prop := Lf G s y c ∨ ∃ r, r < gR G ∧ grs G r = s ∧ ¬ isU G r ∧ Tr G r y c
theorem Sy_bu {G : Gm} {s : Nat} {y c : List Int32} : Sy G s y c ↔ Bs G s y c ∨ ∃ r, r < gR G ∧ grs G r = s ∧ isU G r ∧ ∃ d, Sy G (uS G r) y d ∧ c = nI r :: d := by
  rw [Sy_iff]
  constructor
  · rintro (h | ⟨r, h1, h2, h3⟩)
    · exact Or.inl (Or.inl h)
    · by_cases c : isU G r
      · exact Or.inr ⟨r, h1, h2, c, (Tr_unit c).mp h3⟩
      · exact Or.inl (Or.inr ⟨r, h1, h2, c, h3⟩)
  · rintro ((h | ⟨r, h1, h2, h3, h4⟩) | ⟨r, h1, h2, h3, h4⟩)
    · exact Or.inl h
    · exact Or.inr ⟨r, h1, h2, h4⟩
    · exact Or.inr ⟨r, h1, h2, (Tr_unit h3).mpr h4⟩
/-- chains of unit rules: right ones, and the sort at the end -/
def Pv (G : Gm) : Nat → List Nat → Prop
  | _, [] => True
  | s, r :: u => r < gR G ∧ isU G r ∧ grs G r = s ∧ Pv G (uS G r) u
def pe (G : Gm) : Nat → List Nat → Nat
  | s, [] => s
  | _, r :: u => pe G (uS G r) u
theorem pe_app {G : Gm} : ∀ (a b : List Nat) (s : Nat), pe G s (a ++ b) = pe G (pe G s a) b
  | [], _, _ => rfl
  | r :: a, b, s => pe_app a b (uS G r)
theorem Pv_app {G : Gm} : ∀ (a b : List Nat) (s : Nat), Pv G s (a ++ b) ↔ Pv G s a ∧ Pv G (pe G s a) b
  | [], b, s => by simp [Pv, pe]
  | r :: a, b, s => by
    have := Pv_app (G := G) a b (uS G r)
    show (r < gR G ∧ isU G r ∧ grs G r = s ∧ Pv G (uS G r) (a ++ b)) ↔ (r < gR G ∧ isU G r ∧ grs G r = s ∧ Pv G (uS G r) a) ∧ Pv G (pe G (uS G r) a) b
    rw [this]
    constructor
    · rintro ⟨h1, h2, h3, h4, h5⟩
      exact ⟨⟨h1, h2, h3, h4⟩, h5⟩
    · rintro ⟨⟨h1, h2, h3, h4⟩, h5⟩
      exact ⟨h1, h2, h3, h4, h5⟩
theorem pe_lt {G : Gm} (h : GOK G) : ∀ (u : List Nat) (s : Nat), s < 6 → Pv G s u → pe G s u < 6
  | [], _, hs, _ => hs
  | r :: u, _, _, k => pe_lt h u (uS G r) (uS_lt6 h k.1 k.2.1) k.2.2.2
theorem Sy_chain {G : Gm} {y b : List Int32} : ∀ (u : List Nat) (s : Nat), Pv G s u → Sy G (pe G s u) y b → Sy G s y (u.map nI ++ b)
  | [], _, _, k => k
  | r :: u, s, h, k => Sy_bu.mpr (Or.inr ⟨r, h.1, h.2.2.1, h.2.1, _, Sy_chain u (uS G r) h.2.2.2 k, rfl⟩)
theorem Sy_path {G : Gm} {y : List Int32} : ∀ (n : Nat) (s : Nat) (c : List Int32), c.length ≤ n → Sy G s y c → ∃ u b, Pv G s u ∧ Bs G (pe G s u) y b ∧ c = u.map nI ++ b
  | 0, s, c, h, k => absurd (List.length_eq_zero_iff.mp (by omega)) (Sy_ne k)
  | n + 1, s, c, h, k => by
    rcases Sy_bu.mp k with k | ⟨r, h1, h2, h3, d, h4, rfl⟩
    · exact ⟨[], c, trivial, k, rfl⟩
    · obtain ⟨u, b, k1, k2, k3⟩ := Sy_path n (uS G r) d (by simp at h; omega) h4
      exact ⟨r :: u, b, ⟨h1, h3, h2, k1⟩, k2, by rw [k3]; rfl⟩
theorem Bs_Sy {G : Gm} {s : Nat} {y c : List Int32} (h : Bs G s y c) : Sy G s y c := Sy_bu.mpr (Or.inl h)
/-- seven sorts in a chain: one comes twice -/
theorem Pv_cycle {G : Gm} (h : GOK G) {s : Nat} (hs : s < 6) {u : List Nat} (k : Pv G s u) (hu : 6 ≤ u.length) : ∃ a b c, u = a ++ (b ++ c) ∧ b ≠ [] ∧ b.length ≤ 6 ∧ pe G (pe G s a) b = pe G s a := by
  apply Classical.byContradiction
  intro hn
  have hq : ∀ i, pe G s (u.take i) < 6 := by
    intro i
    have h1 : Pv G s (u.take i) := by
      rw [← List.take_append_drop i u] at k
      exact ((Pv_app _ _ _).mp k).1
    exact pe_lt h _ s hs h1
  have hd : ((List.range 7).map (fun i => pe G s (u.take i))).Nodup := by
    have key : ∀ i j, i < j → j ≤ 6 → pe G s (u.take i) ≠ pe G s (u.take j) := by
      intro i j hij hj e
      apply hn
      refine ⟨u.take i, (u.drop i).take (j - i), u.drop j, ?_, ?_, ?_, ?_⟩
      · have e1 : u.drop j = (u.drop i).drop (j - i) := by rw [List.drop_drop]; congr 1; omega
        rw [e1, List.take_append_drop, List.take_append_drop]
      · intro e0
        have := congrArg List.length e0
        simp only [List.length_take, List.length_drop, List.length_nil] at this
        omega
      · simp only [List.length_take]
        omega
      · rw [← pe_app]
        have e2 : u.take i ++ (u.drop i).take (j - i) = u.take j := by
          have : j = i + (j - i) := by omega
          rw [this, List.take_add]
          congr 2
          omega
        rw [e2, e]
    refine nd_map _ List.nodup_range (fun i j hi hj e => ?_)
    rw [List.mem_range] at hi hj
    rcases Nat.lt_trichotomy i j with c | c | c
    · exact absurd e (key i j c (by omega))
    · exact c
    · exact absurd e.symm (key j i c (by omega))
  have hl := nd_sub (m := List.range 6) hd (fun c hc => by
    obtain ⟨i, _, rfl⟩ := List.mem_map.mp hc
    exact List.mem_range.mpr (hq i))
  simp at hl
theorem Pv_short {G : Gm} (h : GOK G) {s : Nat} (hs : s < 6) : ∀ (n : Nat) (u : List Nat), u.length ≤ n → Pv G s u → ∃ v, Pv G s v ∧ pe G s v = pe G s u ∧ v.length ≤ 5
  | 0, u, hu, k => ⟨u, k, rfl, by omega⟩
  | n + 1, u, hu, k => by
    by_cases c : 6 ≤ u.length
    · obtain ⟨a, b, d, rfl, hb, _, e⟩ := Pv_cycle h hs k c
      rw [Pv_app, Pv_app] at k
      obtain ⟨k1, k2, k3⟩ := k
      have hbl : 0 < b.length := List.length_pos_iff.mpr hb
      obtain ⟨v, v1, v2, v3⟩ := Pv_short h hs n (a ++ d) (by simp at hu ⊢; omega) ((Pv_app _ _ _).mpr ⟨k1, e ▸ k3⟩)
      refine ⟨v, v1, ?_, v3⟩
      rw [v2, pe_app, pe_app, pe_app, e]
    · exact ⟨u, k, rfl, by omega⟩
def rep (b : List Nat) : Nat → List Nat
  | 0 => []
  | n + 1 => b ++ rep b n
theorem rep_len (b : List Nat) : ∀ n, (rep b n).length = n * b.length
  | 0 => by simp [rep]
  | n + 1 => by
    show (b ++ rep b n).length = _
    rw [List.length_append, rep_len b n, Nat.succ_mul]
    omega
theorem rep_ok {G : Gm} {q : Nat} {b : List Nat} (k : Pv G q b) (e : pe G q b = q) : ∀ n, Pv G q (rep b n) ∧ pe G q (rep b n) = q
  | 0 => ⟨trivial, rfl⟩
  | n + 1 => by
    obtain ⟨i1, i2⟩ := rep_ok k e n
    refine ⟨(Pv_app _ _ _).mpr ⟨k, e.symm ▸ i1⟩, ?_⟩
    show pe G q (b ++ rep b n) = q
    rw [pe_app, e, i2]
/-- a chain that comes back: endless many trees -/
theorem Sy_inf {G : Gm} {s : Nat} {a b : List Nat} {y c : List Int32} (h1 : Pv G s a) (h2 : Pv G (pe G s a) b) (e : pe G (pe G s a) b = pe G s a) (hb : b ≠ []) (hc : Sy G (pe G s a) y c) : Inf (Sy G s y) := by
  intro k
  have hbl : 0 < b.length := List.length_pos_iff.mpr hb
  refine ⟨(List.range k).map (fun i => (a ++ rep b i).map nI ++ c), ?_, by simp, ?_⟩
  · refine nd_map _ List.nodup_range (fun i j _ _ e => ?_)
    have := congrArg List.length e
    simp only [List.length_append, List.length_map, rep_len] at this
    exact Nat.eq_of_mul_eq_mul_right hbl (by omega)
  · intro d hd
    obtain ⟨i, _, rfl⟩ := List.mem_map.mp hd
    obtain ⟨i1, i2⟩ := rep_ok h2 e i
    refine Sy_chain _ s ((Pv_app _ _ _).mpr ⟨h1, i1⟩) ?_
    rw [pe_app, i2]
    exact hc
theorem Sy_inf_chain {G : Gm} {y : List Int32} : ∀ (u : List Nat) (s : Nat), Pv G s u → Inf (Sy G (pe G s u) y) → Inf (Sy G s y) := by
  intro u s h k n
  obtain ⟨l, l1, l2, l3⟩ := k n
  refine ⟨l.map (fun d => u.map nI ++ d), nd_map _ l1 (fun a b _ _ e => List.append_cancel_left e), by simpa using l2, ?_⟩
  intro c hc
  obtain ⟨d, hd, rfl⟩ := List.mem_map.mp hc
  exact Sy_chain u s h (l3 d hd)
/-! sizes -/
theorem Sy_yne {G : Gm} (h : GOK G) : ∀ {n : Nat} {s : Nat} {c y : List Int32}, T G n s c y → y ≠ []
  | 0, _, _, _, k => k.elim
  | n + 1, s, c, y, k => by
    rcases k with ⟨x, _, _, rfl, _⟩ | ⟨r, h1, h2, f, g, h3, rfl, h5⟩
    · simp
    · have hne := (h.2.2.2.2 r h1).2.1
      match hl : gry G r with
      | [] => exact absurd hl hne
      | x :: xs =>
        rw [List.flatMap_cons]
        by_cases c : x < 0
        · have : g x ≠ [] := Sy_yne h (h5 x (dv_mem.mpr ⟨by rw [hl]; simp, c⟩))
          simp [sub, c, this]
        · simp [sub, c]
theorem Sy_y {G : Gm} (h : GOK G) {s : Nat} {y c : List Int32} (k : Sy G s y c) : y ≠ [] := by
  obtain ⟨n, hn⟩ := k
  exact Sy_yne h hn
theorem Pr_ne {G : Gm} (h : GOK G) : ∀ {l : List Int32} {gs : List (List Int32)} {d : List Int32}, Pr G l gs d → ∀ g, g ∈ gs → g ≠ []
  | [], [], _, _, g, hg => by simp at hg
  | [], _ :: _, _, k, _, _ => k.elim
  | _ :: _, [], _, k, _, _ => k.elim
  | x :: xs, g :: gs, d, k, e, he => by
    obtain ⟨a, b, h1, h2, _⟩ := k
    rcases List.mem_cons.mp he with rfl | he
    · exact Sy_y h h1
    · exact Pr_ne h h2 e he
theorem dvs_flat {g : Int32 → List Int32} : ∀ (l acc : List Int32), (∀ x, x ∈ l → x < 0 → g x ≠ []) → ∃ t, dvs acc l = acc ++ t ∧ (t.flatMap g).length + l.length ≤ (l.flatMap (sub g)).length + t.length
  | [], acc, _ => ⟨[], by simp [dvs], by simp⟩
  | x :: xs, acc, hg => by
    have hx : 1 ≤ (sub g x).length := by
      unfold sub
      by_cases c : x < 0
      · rw [if_pos c]
        exact List.length_pos_iff.mpr (hg x List.mem_cons_self c)
      · rw [if_neg c]; simp
    unfold dvs
    by_cases c : x < 0 ∧ x ∉ acc
    · rw [if_pos c]
      obtain ⟨t, t1, t2⟩ := dvs_flat xs (acc ++ [x]) (fun z hz => hg z (List.mem_cons_of_mem _ hz))
      refine ⟨x :: t, by rw [t1]; simp, ?_⟩
      have e : sub g x = g x := by simp [sub, c.1]
      rw [List.flatMap_cons, List.flatMap_cons, e]
      simp only [List.length_append, List.length_cons]
      omega
    · rw [if_neg c]
      obtain ⟨t, t1, t2⟩ := dvs_flat xs acc (fun z hz => hg z (List.mem_cons_of_mem _ hz))
      refine ⟨t, t1, ?_⟩
      rw [List.flatMap_cons]
      simp only [List.length_append, List.length_cons]
      omega
theorem asg_mem : ∀ (l : List Int32) (gs : List (List Int32)) (z : Int32), gs.length = l.length → z ∈ l → asg l gs z ∈ gs
  | [], _, z, _, h => by simp at h
  | _ :: _, [], _, h, _ => by simp at h
  | x :: xs, g :: gs, z, h, k => by
    show (if z = x then g else asg xs gs z) ∈ _
    by_cases c : z = x
    · rw [if_pos c]; simp
    · rw [if_neg c]
      exact List.mem_cons_of_mem _ (asg_mem xs gs z (by simpa using h) (by simpa [c] using k))
theorem Spl_len {l y : List Int32} {gs : List (List Int32)} (h : Spl l y gs) (k : ∀ g, g ∈ gs → g ≠ []) : gs.flatten.length + l.length ≤ y.length + gs.length := by
  obtain ⟨t, t1, t2⟩ := dvs_flat (g := asg (dv l) gs) l [] (fun x hx hn => k _ (asg_mem _ _ _ h.1 (dv_mem.mpr ⟨hx, hn⟩)))
  rw [List.nil_append] at t1
  have e : t = dv l := t1.symm
  subst e
  rw [← h.2] at t2
  have e2 : (dv l).flatMap (asg (dv l) gs) = gs.flatten := by
    rw [List.flatMap_def, map_asg _ _ (dv_nd l) h.1]
  rw [e2] at t2
  rw [h.1]
  omega
theorem flat_one : ∀ {gs : List (List Int32)} {g : List Int32}, (∀ g, g ∈ gs → g ≠ []) → g ∈ gs → g.length + gs.length ≤ gs.flatten.length + 1
  | [], _, _, h => by simp at h
  | x :: xs, g, k, h => by
    have hx : 1 ≤ x.length := List.length_pos_iff.mpr (k x List.mem_cons_self)
    have hall : xs.length ≤ xs.flatten.length := by
      clear h
      induction xs with
      | nil => simp
      | cons z zs ih =>
        have hz : 1 ≤ z.length := List.length_pos_iff.mpr (k z (by simp))
        have := ih (fun g hg => k g (by
          rcases List.mem_cons.mp hg with r | r
          · simp [r]
          · simp [r]))
        simp only [List.flatten_cons, List.length_append, List.length_cons]
        omega
    simp only [List.flatten_cons, List.length_append, List.length_cons]
    rcases List.mem_cons.mp h with rfl | h
    · omega
    · have := flat_one (fun g hg => k g (List.mem_cons_of_mem _ hg)) h
      omega
/-- a rule that is no unit rule: its parts are shorter than the whole -/
theorem Spl_part {G : Gm} (h : GOK G) {r : Nat} (hr : r < gR G) (hu : ¬ isU G r) {y : List Int32} {gs : List (List Int32)} (k : Spl (gry G r) y gs) (kn : ∀ g, g ∈ gs → g ≠ []) {g : List Int32} (hg : g ∈ gs) : g.length < y.length := by
  have h1 := Spl_len k kn
  have h2 := flat_one kn hg
  have h3 : 2 ≤ (gry G r).length := by
    match hl : gry G r with
    | [] => exact absurd hl (h.2.2.2.2 r hr).2.1
    | [x] =>
      exfalso
      by_cases c : x < 0
      · exact hu ⟨x, c, hl⟩
      · have : dv [x] = [] := by simp [dv, dvs, c]
        have e := k.1
        rw [hl, this] at e
        rw [List.length_eq_zero_iff.mp e] at hg
        simp at hg
    | _ :: _ :: _ => simp
  omega
/-- what the sizes of a rule's parts come to -/
theorem Spl_sum {G : Gm} (h : GOK G) {r : Nat} (hr : r < gR G) (hu : ¬ isU G r) {y : List Int32} {gs : List (List Int32)} (k : Spl (gry G r) y gs) (kn : ∀ g, g ∈ gs → g ≠ []) : 12 * gs.flatten.length + 12 ≤ 12 * y.length + 6 * gs.length := by
  have h1 := Spl_len k kn
  have hne := (h.2.2.2.2 r hr).2.1
  match hl : gry G r with
  | [] => exact absurd hl hne
  | [x] =>
    by_cases c : x < 0
    · exact absurd ⟨x, c, hl⟩ hu
    · have : dv [x] = [] := by simp [dv, dvs, c]
      have e := k.1
      rw [hl, this] at e
      rw [List.length_eq_zero_iff.mp e]
      have e2 : gs = [] := List.length_eq_zero_iff.mp e
      rw [hl, e2] at h1
      simp at h1 ⊢
      omega
  | x :: z :: t =>
    rw [hl] at h1
    simp only [List.length_cons] at h1
    have hy : gs.flatten.length ≤ y.length := by
      have e := k.1
      have := dvs_len (gry G r) []
      rw [hl] at this
      have e3 : (dv (gry G r)).length ≤ (gry G r).length := by
        have a1 := dvs_len (gry G r) []
        have a2 := List.length_filter_le (fun x => decide (x < 0)) (gry G r)
        unfold dv
        simp only [List.length_nil] at a1
        omega
      rw [hl] at e3 e
      simp only [List.length_cons] at e3
      omega
    omega
