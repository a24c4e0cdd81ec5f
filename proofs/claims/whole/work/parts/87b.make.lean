/-! rows grow, in the model: a row is kept up to its 13th symbol -/
theorem cut_cut (a b : List Int32) (n : Nat) : (a.take n ++ b.take n).take n = (a ++ b).take n := by
  by_cases h : n ≤ a.length
  · rw [List.take_append_of_le_length (by rw [List.length_take]; omega), List.take_append_of_le_length h, List.take_take, Nat.min_self]
  · rw [List.take_of_length_le (show a.length ≤ n by omega), List.take_append, List.take_append, List.take_take, Nat.min_eq_left (by omega)]
theorem st2_id (f : Nat → Nat → Int32) (a k : Nat) : st2 f a k (f a k) = f := by
  funext b j
  by_cases h : b = a
  · subst h
    by_cases e : j = k
    · subst e
      rw [st2_s]
    · rw [st2_k _ _ _ e]
  · rw [st2_a _ _ _ h]
theorem cut_r (a b : List Int32) (n : Nat) : (a ++ b.take n).take n = (a ++ b).take n := by
  rw [← cut_cut a (b.take n), List.take_take, Nat.min_self, cut_cut]
theorem cut_l (a b : List Int32) (n : Nat) : (a.take n ++ b).take n = (a ++ b).take n := by
  rw [← cut_cut (a.take n) b, List.take_take, Nat.min_self, cut_cut]
theorem cut_flat {g g' : Int32 → List Int32} : ∀ (l : List Int32), (∀ x, x ∈ l → x < 0 → g' x = (g x).take 13) → (l.flatMap (sub g')).take 13 = (l.flatMap (sub g)).take 13
  | [], _ => rfl
  | x :: xs, h => by
    rw [List.flatMap_cons, List.flatMap_cons, ← cut_r, cut_flat xs (fun z hz => h z (List.mem_cons_of_mem _ hz)), cut_r, ← cut_l]
    have e : (sub g' x).take 13 = (sub g x).take 13 := by
      unfold sub
      by_cases c : x < 0
      · rw [if_pos c, if_pos c, h x List.mem_cons_self c, List.take_take, Nat.min_self]
      · rw [if_neg c, if_neg c]
    rw [e, cut_l]
theorem asg_cut : ∀ (l : List Int32) (Y : List (List Int32)) (x : Int32), asg l (Y.map (List.take 13)) x = (asg l Y x).take 13
  | [], Y, x => by simp [asg]
  | _ :: _, [], x => by simp [asg]
  | z :: zs, y :: Y, x => by
    show (if x = z then y.take 13 else asg zs (Y.map (List.take 13)) x) = (if x = z then y else asg zs Y x).take 13
    by_cases c : x = z
    · rw [if_pos c, if_pos c]
    · rw [if_neg c, if_neg c]
      exact asg_cut zs Y x
def MJ (μ : Nat → Nat → Int32) (J : List Int32) : Prop := ∀ k, k < J.length → μ 22 k = J.getD k 0
theorem MJ.push {μ : Nat → Nat → Int32} {J : List Int32} (h : MJ μ J) (x : Int32) : MJ (st2 μ 22 J.length x) (J ++ [x]) := by
  intro k hk
  rw [List.length_append, List.length_singleton] at hk
  by_cases e : k = J.length
  · subst e
    rw [st2_s, List.getD_eq_getElem?_getD, List.getElem?_append_right (Nat.le_refl _), Nat.sub_self]
    rfl
  · rw [st2_k _ _ _ e, h k (by omega), List.getD_eq_getElem?_getD, List.getD_eq_getElem?_getD, List.getElem?_append_left (by omega)]
theorem q_make89 {N : Nat} {x v1 v3 : Int32} {b : Nat} {p : List Int32} (hp : p.length ≤ 13) (hb : 13 * b + 13 ≤ 2600) (kx : (Nat → Nat → Int32) → Int32 → Option (Nat → Nat → Int32)) : ∀ (d k n : Nat) (μ : Nat → Nat → Int32) (J : List Int32), k + d = p.length → d < n → MJ μ J → J.length ≤ 13 → (∀ e, e < p.length → (x < 0 → μ 20 (13 * b + e) = p.getD e 0) ∧ (¬ x < 0 → x = p.getD e 0)) → ∃ μ', (∀ c, c ≠ 22 → μ' c = μ c) ∧ MJ μ' ((J ++ p.drop k).take 13) ∧ l_Md_makeRow_89 N v1 v3 x (nI b) (nI p.length) kx n μ (nI J.length) (nI k) = kx μ' (nI ((J ++ p.drop k).take 13).length) := by
  intro d
  induction d with
  | zero =>
    intro k n μ J hk hn hJ hl hv
    obtain ⟨n, rfl⟩ : ∃ m, n = m + 1 := ⟨n - 1, by omega⟩
    have : k = p.length := by omega
    subst this
    rw [List.drop_length, List.append_nil, List.take_of_length_le hl]
    refine ⟨μ, fun _ _ => rfl, hJ, ?_⟩
    unfold l_Md_makeRow_89 f_Md_makeRow_89
    rw [if_pos (nI_le (Nat.le_refl _) (by omega))]
  | succ d ih =>
    intro k n μ J hk hn hJ hl hv
    obtain ⟨n, rfl⟩ : ∃ m, n = m + 1 := ⟨n - 1, by omega⟩
    have hkp : k < p.length := by omega
    by_cases full : J.length = 13
    · have e : (J ++ p.drop k).take 13 = J := by
        rw [← full, List.take_left]
      rw [e]
      refine ⟨μ, fun _ _ => rfl, hJ, ?_⟩
      unfold l_Md_makeRow_89 f_Md_makeRow_89
      rw [if_neg (nI_ge hkp (by omega)), l_13, if_pos (nI_le (by omega) (by omega))]
    · have hJx := hJ.push (p.getD k 0)
      obtain ⟨μ', g1, g2, g3⟩ := ih (k + 1) n (st2 μ 22 J.length (p.getD k 0)) (J ++ [p.getD k 0]) (by omega) (by omega) hJx (by rw [List.length_append, List.length_singleton]; omega) (fun e he => by rw [st2_aj _ _ _ _ (by decide)]; exact hv e he)
      have e : J ++ [p.getD k 0] ++ p.drop (k + 1) = J ++ p.drop k := by
        rw [drop_getD hkp, List.append_assoc, List.singleton_append]
      rw [e] at g2 g3
      refine ⟨μ', fun c hc => by rw [g1 c hc, st2_a _ _ _ hc], g2, ?_⟩
      rw [List.length_append, List.length_singleton] at g3
      unfold l_Md_makeRow_89 f_Md_makeRow_89
      rw [if_neg (nI_ge hkp (by omega)), l_13, if_neg (nI_ge (by omega) (by omega))]
      by_cases c : x < 0
      · rw [if_pos c, pk_mul, nI_add, ck_n (by omega) (by omega), ck_n (by omega) (by omega), nI_clamp (by omega), nI_clamp (by omega), (hv k hkp).1 c, nm_d, nI_1, nm_d, nI_1, nm_d]
        exact g3
      · have ex := (hv k hkp).2 c
        rw [if_neg c, ck_n (by omega) (by omega), nI_clamp (by omega), nm_d, nI_1, nm_d, nI_1, nm_d]
        rw [← ex] at g3
        exact g3
def RwS (μ : Nat → Nat → Int32) (Y : List (List Int32)) : Prop := μ 0 33 = nI Y.length ∧ ∀ k, k < Y.length → (Y.getD k []).length ≤ 13 ∧ μ 21 (Y.length - 1 - k) = nI (Y.getD k []).length ∧ ∀ e, e < (Y.getD k []).length → μ 20 (13 * (Y.length - 1 - k) + e) = (Y.getD k []).getD e 0
theorem RwS.same {μ μ' : Nat → Nat → Int32} {Y : List (List Int32)} (h : RwS μ Y) (e0 : μ' 0 33 = μ 0 33) (e1 : μ' 21 = μ 21) (e2 : μ' 20 = μ 20) : RwS μ' Y := by
  unfold RwS
  rw [e0, e1, e2]
  exact h
theorem q_make20 {N : Nat} (hN : 20 ≤ N) {G : Gm} {r : Nat} (hr : r < gR G) {Y : List (List Int32)} (hY : Y.length ≤ 200) (hd : (dv (gry G r)).length ≤ Y.length) (kx : (Nat → Nat → Int32) → Int32 → Option (Nat → Nat → Int32)) : ∀ (d i n : Nat) (μ : Nat → Nat → Int32), i + d = (gry G r).length → d < n → MdG μ G → RwS μ Y → MJ μ (((((gry G r).take i).flatMap (sub (asg (dv (gry G r)) Y)))).take 13) → ∃ μ', (∀ c, c ≠ 22 → μ' c = μ c) ∧ MJ μ' (((gry G r).flatMap (sub (asg (dv (gry G r)) Y))).take 13) ∧ l_Md_makeRow_20 N (nI r) kx n μ (nI (((((gry G r).take i).flatMap (sub (asg (dv (gry G r)) Y)))).take 13).length) (nI i) = kx μ' (nI (((gry G r).flatMap (sub (asg (dv (gry G r)) Y))).take 13).length) := by
  intro d
  induction d with
  | zero =>
    intro i n μ hi hn hG hS hJ
    obtain ⟨n, rfl⟩ : ∃ m, n = m + 1 := ⟨n - 1, by omega⟩
    have hR := hG.1.2.2.1
    have hMR := (hG.2.2.2.2.2 r hr).2
    have h8 := hMR.2.2.1
    have : i = (gry G r).length := by omega
    subst this
    rw [List.take_length] at hJ ⊢
    refine ⟨μ, fun _ _ => rfl, hJ, ?_⟩
    unfold l_Md_makeRow_20 f_Md_makeRow_20
    rw [ck_n (by omega) (by omega), nI_clamp (by omega), hMR.2.1, if_pos (nI_le (Nat.le_refl _) (by omega))]
  | succ d ih =>
    intro i n μ hi hn hG hS hJ
    obtain ⟨n, rfl⟩ : ∃ m, n = m + 1 := ⟨n - 1, by omega⟩
    have hR := hG.1.2.2.1
    have hMR := (hG.2.2.2.2.2 r hr).2
    have h8 := hMR.2.2.1
    have hil : i < (gry G r).length := by omega
    have enext : ∀ p, sub (asg (dv (gry G r)) Y) ((gry G r).getD i 0) = p → ((((gry G r).take i).flatMap (sub (asg (dv (gry G r)) Y))).take 13 ++ p.drop 0).take 13 = (((gry G r).take (i + 1)).flatMap (sub (asg (dv (gry G r)) Y))).take 13 := by
      intro p hp
      rw [List.drop_zero, cut_l, take_snoc hil, List.flatMap_append, List.flatMap_singleton, hp]
    obtain ⟨J, eJ⟩ : ∃ J, J = (((gry G r).take i).flatMap (sub (asg (dv (gry G r)) Y))).take 13 := ⟨_, rfl⟩
    rw [← eJ] at hJ enext ⊢
    have hJ13 : J.length ≤ 13 := by
      rw [eJ, List.length_take]
      omega
    -- one part
    have go : ∀ (b : Nat) (p : List Int32), sub (asg (dv (gry G r)) Y) ((gry G r).getD i 0) = p → p.length ≤ 13 → 13 * b + 13 ≤ 2600 → (∀ e, e < p.length → ((gry G r).getD i 0 < 0 → μ 20 (13 * b + e) = p.getD e 0) ∧ (¬ (gry G r).getD i 0 < 0 → (gry G r).getD i 0 = p.getD e 0)) → ∃ μ', (∀ c, c ≠ 22 → μ' c = μ c) ∧ MJ μ' (((gry G r).flatMap (sub (asg (dv (gry G r)) Y))).take 13) ∧ l_Md_makeRow_89 N (nI r) (nI i) ((gry G r).getD i 0) (nI b) (nI p.length) (fun s_self v2 => f_Md_makeRow_140 N (l_Md_makeRow_20 N (nI r) kx n) kx s_self (nI r) v2 (nI i)) N μ (nI J.length) 0 = kx μ' (nI (((gry G r).flatMap (sub (asg (dv (gry G r)) Y))).take 13).length) := by
      intro b p hp h13 hb hv
      obtain ⟨μ1, a1, a2, a3⟩ := q_make89 (N := N) (v1 := nI r) (v3 := nI i) h13 hb (fun s_self v2 => f_Md_makeRow_140 N (l_Md_makeRow_20 N (nI r) kx n) kx s_self (nI r) v2 (nI i)) p.length 0 N μ J (by omega) (by omega) hJ hJ13 hv
      rw [enext p hp] at a2 a3
      obtain ⟨μ', g1, g2, g3⟩ := ih (i + 1) n μ1 (by omega) (by omega) (hG.fq (fun z hz => by rw [a1 0 (by decide)]) (fun b hb => a1 b (by omega))) (hS.same (by rw [a1 0 (by decide)]) (a1 21 (by decide)) (a1 20 (by decide))) a2
      refine ⟨μ', fun c hc => by rw [g1 c hc, a1 c hc], g2, ?_⟩
      rw [nI_0] at a3
      rw [a3]
      unfold f_Md_makeRow_140
      rw [nm_d, nI_1]
      exact g3
    obtain ⟨X, hX⟩ : ∃ X, X = l_Md_makeRow_20 N (nI r) kx (n + 1) μ (nI J.length) (nI i) := ⟨_, rfl⟩
    rw [← hX]
    have step : X = f_Md_makeRow_20 N (l_Md_makeRow_20 N (nI r) kx n) kx μ (nI r) (nI J.length) (nI i) := hX
    unfold f_Md_makeRow_20 at step
    rw [ck_n (by omega) (by omega), nI_clamp (by omega), hMR.2.1, if_neg (nI_ge hil (by omega)), l_8, pk_mul, nI_add, ck_n (by omega) (by omega), nI_clamp (by omega), hMR.2.2.2 i hil, nm_d] at step
    by_cases c : (gry G r).getD i 0 < 0
    · have hx : (gry G r).getD i 0 ∈ dv (gry G r) := dv_mem.mpr ⟨getD_mem hil, c⟩
      have hidx : (dv (gry G r)).idxOf ((gry G r).getD i 0) < (dv (gry G r)).length := List.idxOf_lt_length_of_mem hx
      obtain ⟨z, ez⟩ : ∃ z, z = (dv (gry G r)).idxOf ((gry G r).getD i 0) := ⟨_, rfl⟩
      rw [← ez] at hidx
      obtain ⟨s1, s2, s3⟩ := hS.2 z (by omega)
      have easg : asg (dv (gry G r)) Y ((gry G r).getD i 0) = Y.getD z [] := by
        rw [← (asg_take _ _ _ hx hd).2, asg_idx _ _ _ (by rw [List.length_take]; omega) hx, ← ez, List.getD_eq_getElem?_getD, List.getD_eq_getElem?_getD, List.getElem?_take, if_pos hidx]
      obtain ⟨μ', g1, g2, g3⟩ := go (Y.length - 1 - z) (Y.getD z []) (by unfold sub; rw [if_pos c]; exact easg) s1 (by omega) (fun e he => ⟨fun _ => s3 e he, fun q => absurd c q⟩)
      refine ⟨μ', g1, g2, ?_⟩
      rw [if_pos c, q_rank (by omega) hMR hx, b1_some, hS.1, n_sub1 (by omega), ← ez, n_sub (by omega)] at step
      unfold f_Md_makeRow_66 at step
      rw [if_pos c, ck_n (by omega) (by omega), nI_clamp (by omega), s2, nm_d] at step
      rw [step]
      exact g3
    · obtain ⟨μ', g1, g2, g3⟩ := go 0 [(gry G r).getD i 0] (by unfold sub; rw [if_neg c]) (by simp) (by omega) (fun e he => ⟨fun q => absurd q c, fun _ => by
        have : e = 0 := by simpa using he
        subst this
        rfl⟩)
      refine ⟨μ', g1, g2, ?_⟩
      rw [if_neg c] at step
      unfold f_Md_makeRow_66 at step
      rw [if_neg c] at step
      rw [step]
      exact g3
theorem q_make172 {N b : Nat} {J : List Int32} (hJ : J.length ≤ 13) (hb : b < 200) (μ0 : Nat → Nat → Int32) (h33 : μ0 0 33 = nI b) (hM : MJ μ0 J) (kx : (Nat → Nat → Int32) → Option (Nat → Nat → Int32)) : ∀ (d k n : Nat) (μ : Nat → Nat → Int32), k + d = J.length → d < n → (∀ c, c ≠ 20 → μ c = μ0 c) → (∀ e, e < k → μ 20 (13 * b + e) = J.getD e 0) → (∀ z, z < 13 * b → μ 20 z = μ0 20 z) → ∃ μ', (∀ c, c ≠ 20 → μ' c = μ0 c) ∧ (∀ e, e < J.length → μ' 20 (13 * b + e) = J.getD e 0) ∧ (∀ z, z < 13 * b → μ' 20 z = μ0 20 z) ∧ l_Md_makeRow_172 N (nI J.length) kx n μ (nI k) = kx μ' := by
  intro d
  induction d with
  | zero =>
    intro k n μ hk hn h1 h2 h3
    obtain ⟨n, rfl⟩ : ∃ m, n = m + 1 := ⟨n - 1, by omega⟩
    have : k = J.length := by omega
    subst this
    refine ⟨μ, h1, h2, h3, ?_⟩
    unfold l_Md_makeRow_172 f_Md_makeRow_172
    rw [if_pos (nI_le (Nat.le_refl _) (by omega))]
  | succ d ih =>
    intro k n μ hk hn h1 h2 h3
    obtain ⟨n, rfl⟩ : ∃ m, n = m + 1 := ⟨n - 1, by omega⟩
    obtain ⟨μ', g1, g2, g3, g4⟩ := ih (k + 1) n (st2 μ 20 (13 * b + k) (J.getD k 0)) (by omega) (by omega) (fun c hc => by rw [st2_a _ _ _ hc]; exact h1 c hc) (fun e he => by
      by_cases q : e = k
      · subst q
        exact st2_s _ _ _ _
      · rw [st2_k _ _ _ (by omega)]
        exact h2 e (by omega)) (fun z hz => by rw [st2_k _ _ _ (by omega)]; exact h3 z hz)
    refine ⟨μ', g1, g2, g3, ?_⟩
    unfold l_Md_makeRow_172 f_Md_makeRow_172
    rw [if_neg (nI_ge (by omega) (by omega)), ck_n (by omega) (by omega), h1 0 (by decide), h33, l_13, pk_mul, nI_add, ck_n (by omega) (by omega), nI_clamp (by omega), nI_clamp (by omega), h1 22 (by decide), hM k (by omega), nm_d, nm_d, nI_1]
    exact g4
/-- the end of makeRow: b rows stay, J is laid on them -/
theorem q_makeEnd {N b : Nat} (hN : 20 ≤ N) {J : List Int32} (hJ : J.length ≤ 13) (hb : b < 200) {μ : Nat → Nat → Int32} {Y : List (List Int32)} (hS : RwS μ Y) (hbY : b ≤ Y.length) (hM : MJ μ J) : ∃ μ', (∀ c, c ≠ 0 → c ≠ 20 → c ≠ 21 → μ' c = μ c) ∧ (∀ k, k ≠ 33 → μ' 0 k = μ 0 k) ∧ RwS μ' (J :: Y.drop (Y.length - b)) ∧ l_Md_makeRow_172 N (nI J.length) (fun s_self => f_Md_makeRow_203 N s_self) N (st2 (st2 μ 0 33 (nI b)) 21 b (nI J.length)) 0 = some μ' := by
  obtain ⟨μ1, a1, a2, a3, a4⟩ := q_make172 (N := N) hJ hb (st2 (st2 μ 0 33 (nI b)) 21 b (nI J.length)) (by rw [st2_aj _ _ _ _ (by decide), st2_s]) (fun k hk => by rw [st2_a _ _ _ (by decide), st2_a _ _ _ (by decide)]; exact hM k hk) (fun s_self => f_Md_makeRow_203 N s_self) J.length 0 N (st2 (st2 μ 0 33 (nI b)) 21 b (nI J.length)) (by omega) (by omega) (fun _ _ => rfl) (fun e he => by omega) (fun _ _ => rfl)
  have e033 : μ1 0 33 = nI b := by rw [a1 0 (by decide), st2_aj _ _ _ _ (by decide), st2_s]
  have hlen : (J :: Y.drop (Y.length - b)).length = b + 1 := by
    rw [List.length_cons, List.length_drop]
    omega
  refine ⟨st2 μ1 0 33 (nI (b + 1)), fun c c0 c20 c21 => by rw [st2_a _ _ _ c0, a1 c c20, st2_a _ _ _ c21, st2_a _ _ _ c0], fun k hk => by rw [st2_k _ _ _ hk, a1 0 (by decide), st2_aj _ _ _ _ (by decide), st2_k _ _ _ hk], ⟨by rw [st2_s, hlen], ?_⟩, ?_⟩
  · rw [hlen]
    intro k hk
    have e21 : st2 μ1 0 33 (nI (b + 1)) 21 = μ1 21 := st2_a _ _ _ (by decide)
    have e20 : st2 μ1 0 33 (nI (b + 1)) 20 = μ1 20 := st2_a _ _ _ (by decide)
    rw [e21, e20]
    match k, hk with
    | 0, _ =>
      rw [show b + 1 - 1 - 0 = b by omega]
      refine ⟨hJ, ?_, a2⟩
      rw [a1 21 (by decide), st2_s]
      rfl
    | k + 1, hk =>
      have eg : (J :: Y.drop (Y.length - b)).getD (k + 1) [] = Y.getD (Y.length - b + k) [] := by
        rw [List.getD_eq_getElem?_getD, List.getD_eq_getElem?_getD, List.getElem?_cons_succ, List.getElem?_drop]
      rw [eg]
      obtain ⟨s1, s2, s3⟩ := hS.2 (Y.length - b + k) (by omega)
      have ei : Y.length - 1 - (Y.length - b + k) = b + 1 - 1 - (k + 1) := by omega
      rw [ei] at s2 s3
      refine ⟨s1, ?_, fun e he => ?_⟩
      · rw [a1 21 (by decide), st2_k _ _ _ (by omega), st2_a _ _ _ (by decide)]
        exact s2
      · rw [a3 _ (by omega), st2_a _ _ _ (by decide), st2_a _ _ _ (by decide)]
        exact s3 e he
  · rw [nI_0] at a4
    rw [a4]
    unfold f_Md_makeRow_203
    rw [e033, nI_1, nm_d]
theorem q_makeRow {N : Nat} (hN : 20 ≤ N) {G : Gm} {μ : Nat → Nat → Int32} (hG : MdG μ G) {c : Int32} (hc : hasC G c) {Y : List (List Int32)} (hY : Y.length < 200) (hd : (slS G c).length ≤ Y.length) (hS : RwS μ Y) : ∃ μ', (∀ c, c ≠ 0 → c ≠ 20 → c ≠ 21 → c ≠ 22 → μ' c = μ c) ∧ (∀ k, k ≠ 33 → μ' 0 k = μ 0 k) ∧ RwS μ' (if c < 0 then [c] :: Y else ((gry G c.toNatClampNeg).flatMap (sub (asg (dv (gry G c.toNatClampNeg)) Y))).take 13 :: Y.drop (dv (gry G c.toNatClampNeg)).length) ∧ m_Md_makeRow N μ c = some μ' := by
  have hR := hG.1.2.2.1
  have hV := hG.1.2.1
  unfold m_Md_makeRow f_Md_makeRow_0
  rcases hc with ⟨r, hr, rfl⟩ | ⟨v, hv, rfl⟩
  · rw [if_neg (nI_pos (by omega)), nI_clamp (by omega), if_pos (nI_pos' (by omega))]
    rw [sl_r (by omega), List.length_map] at hd
    have hMR := (hG.2.2.2.2.2 r hr).2
    have h8 := hMR.2.2.1
    obtain ⟨μ1, a1, a2, a3⟩ := q_make20 hN hr (by omega) hd (fun s_self v2 => f_Md_makeRow_146 N s_self (nI r) v2) (gry G r).length 0 N μ (by omega) (by omega) hG hS (by intro k hk; simp at hk)
    obtain ⟨J, eJ⟩ : ∃ J, J = ((gry G r).flatMap (sub (asg (dv (gry G r)) Y))).take 13 := ⟨_, rfl⟩
    rw [← eJ] at a2 a3 ⊢
    have hJ13 : J.length ≤ 13 := by
      rw [eJ, List.length_take]
      omega
    have hS1 : RwS μ1 Y := hS.same (by rw [a1 0 (by decide)]) (a1 21 (by decide)) (a1 20 (by decide))
    have hMR1 : MdR μ1 r (gry G r) := ⟨hMR.1, by rw [a1 3 (by decide)]; exact hMR.2.1, h8, fun k hk => by rw [a1 4 (by decide)]; exact hMR.2.2.2 k hk⟩
    obtain ⟨μ2, b1, b2, b3, b4⟩ := q_makeEnd (N := N) (b := Y.length - (dv (gry G r)).length) hN hJ13 (by omega) hS1 (by omega) a2
    rw [show Y.length - (Y.length - (dv (gry G r)).length) = (dv (gry G r)).length by omega] at b3
    refine ⟨μ2, fun c c0 c20 c21 c22 => by rw [b1 c c0 c20 c21, a1 c c22], fun k hk => by rw [b2 k hk, a1 0 (by decide)], b3, ?_⟩
    have e0 : (((gry G r).take 0).flatMap (sub (asg (dv (gry G r)) Y))).take 13 = [] := by simp
    rw [e0, List.length_nil, nI_0] at a3
    rw [a3]
    unfold f_Md_makeRow_146
    rw [q_different (by omega) hMR1, b1_some, hS1.1, n_sub (by omega), nm_d, st2_s, ck_n (by omega) (by omega), nI_clamp (by omega), nm_d]
    exact b4
  · have hneg : vS v < 0 := vS_neg (by omega)
    rw [if_pos hneg, if_neg (Int32.not_le.mpr hneg)]
    have hM1 : MJ (st2 μ 22 0 (vS v)) [vS v] := by
      intro k hk
      have : k = 0 := by simpa using hk
      subst this
      exact st2_s _ _ _ _
    have hS1 : RwS (st2 μ 22 0 (vS v)) Y := hS.same (by rw [st2_aj _ _ _ _ (by decide)]) (st2_a _ _ _ (by decide)) (st2_a _ _ _ (by decide))
    obtain ⟨μ2, b1, b2, b3, b4⟩ := q_makeEnd (N := N) (b := Y.length) hN (J := [vS v]) (by simp) hY hS1 (Nat.le_refl _) hM1
    rw [Nat.sub_self, List.drop_zero] at b3
    refine ⟨μ2, fun c c0 c20 c21 c22 => by rw [b1 c c0 c20 c21, st2_a _ _ _ c22], fun k hk => by rw [b2 k hk, st2_aj _ _ _ _ (by decide)], b3, ?_⟩
    have e33 : st2 μ 22 0 (vS v) 0 33 = nI Y.length := by rw [st2_aj _ _ _ _ (by decide)]; exact hS.1
    have e00 : st2 (st2 μ 22 0 (vS v)) 0 33 (nI Y.length) = st2 μ 22 0 (vS v) := by
      rw [← e33]
      exact st2_id _ _ _
    rw [e00] at b4
    rw [show ck 0 13 = ck (nI 0) 13 from rfl, ck_n (by omega) (by omega), show Int32.toNatClampNeg 0 = 0 from rfl, nm_d, e33, ck_n (by omega) (by omega), nI_clamp (by omega), nm_d]
    exact b4
