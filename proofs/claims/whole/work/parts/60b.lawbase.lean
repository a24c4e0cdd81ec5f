section GDL
variable {p : Program} {l : Launch} {e : Env} {R : Room} {s : State} {m : MethodId} {args : Array Value} {below : List Frame} {meth : Method} {c : Code} {cells slots : Nat} {Q : State → Prop}
variable {cc : ByteArray} {pc : Nat} {D : va_G} {cl : List vw_C} {tys : List (ClassId × FieldType)} {A : Nat → Prop} {nL : Nat} {own : String} {Ts : List Cond} {w : List va_W} {lv : List (Nat × Value)} {st : List Value}
theorem fl_at {w : List va_W} {cs : List va_W} {isC : List Nat} (hC : isC.map (fun i => w[i]?) = cs.map some) {k i : Nat} (hk : isC[k]? = some i) {c : va_W} (hc : w[i]? = some c) : cs[k]? = some c := by
  have h1 : (isC.map (fun i => w[i]?))[k]? = some (some c) := by rw [List.getElem?_map, hk, Option.map_some, hc]
  rw [hC, List.getElem?_map] at h1
  cases hz : cs[k]? with
  | none => rw [hz] at h1; cases h1
  | some z => rw [hz] at h1; cases h1; rfl
/-- gd_mix without a look at the addresses -/
theorem gd_mix2 {cs cs1 w2 : List va_W} {H H1 : Heap} {A : Nat → Prop} {D : va_G} {cl : List vw_C} {w : List va_W} {isC isR : List Nat} (hP : va_P D cl w.flatten H) (hD : va_D A w.flatten) (hC : isC.map (fun i => w[i]?) = cs.map some) (hC1 : isC.map (fun i => w2[i]?) = cs1.map some) (hR : isR.map (fun i => w2[i]?) = isR.map (fun i => w[i]?)) (hcov : ∀ i, i < w2.length → i ∈ isC ∨ (i ∈ isR ∧ i ∉ isC))
    (hk : ∀ q : Nat, q < H.size → ¬ va_A cs.flatten H.size q → H1[q]? = H[q]?) (hF : ∀ q, va_A cs.flatten H.size q → A q) (hP1 : va_P D cl cs1.flatten H1) (hD1 : va_D (va_A cs.flatten H.size) cs1.flatten) : va_P D cl w2.flatten H1 ∧ va_D A w2.flatten := by
  have hN := vN_of hD
  have hN1 := vN_of hD1
  have inC : ∀ {i : Nat} {c : va_W}, i ∈ isC → w2[i]? = some c → ∀ q ∈ c, va_A cs.flatten H.size q.1 := by
    intro i c hi hc q hq
    obtain ⟨k, hk⟩ := List.getElem?_of_mem (List.mem_flatten.mpr ⟨c, fl_sel2 hC1 hi hc, hq⟩)
    exact hD1.2 k q hk
  have inR : ∀ {i : Nat} {c : va_W}, i ∈ isR → i ∉ isC → w2[i]? = some c → w[i]? = some c ∧ ∀ q ∈ c, va_at D cl q H ∧ ¬ va_A cs.flatten H.size q.1 := by
    intro i c h hn hi
    obtain ⟨k, hk'⟩ := List.getElem?_of_mem h
    have h1 : (isR.map (fun i => w2[i]?))[k]? = some (some c) := by rw [List.getElem?_map, hk', Option.map_some, hi]
    rw [hR, List.getElem?_map, hk', Option.map_some] at h1
    have hwi : w[i]? = some c := Option.some.inj h1
    refine ⟨hwi, fun q hqc => ?_⟩
    have hat := vP_iff.mp hP q (fl_mem hwi hqc)
    refine ⟨hat, fun ha => ?_⟩
    rcases vA_iff.mp ha with ⟨q', hq', e'⟩ | h2
    · obtain ⟨j, hj, c', hc', hqc'⟩ := fl_sel hC q' hq'
      have hij : i ≠ j := fun e => hn (e ▸ hj)
      exact fl_apart hN hij hwi hc' hqc hqc' e'.symm
    · exact absurd hat.lt (Nat.not_lt.mpr h2)
  have lt_of : ∀ {i : Nat} {c : va_W}, w2[i]? = some c → i < w2.length := fun hi => (List.getElem?_eq_some_iff.mp hi).1
  refine ⟨vP_iff.mpr (fun q hq => ?_), vD_of (List.pairwise_flatten.mpr ⟨fun c hc => ?_, List.pairwise_iff_getElem.mpr (fun i j hi hj hij q hq q' hq' => ?_)⟩) (fun q hq => ?_)⟩
  · obtain ⟨c, hc, hqc⟩ := List.mem_flatten.mp hq
    obtain ⟨i, hi⟩ := List.getElem?_of_mem hc
    rcases hcov i (lt_of hi) with h | ⟨h, hn⟩
    · exact vP_iff.mp hP1 q (List.mem_flatten.mpr ⟨c, fl_sel2 hC1 h hi, hqc⟩)
    · obtain ⟨hat, hna⟩ := (inR h hn hi).2 q hqc
      exact hat.kept (hk q.1 hat.lt hna)
  · obtain ⟨i, hi⟩ := List.getElem?_of_mem hc
    rcases hcov i (lt_of hi) with h | ⟨h, hn⟩
    · exact (List.pairwise_flatten.mp hN1).1 c (fl_sel2 hC1 h hi)
    · exact (List.pairwise_flatten.mp hN).1 c (List.mem_of_getElem? (inR h hn hi).1)
  · have ei : w2[i]? = some w2[i] := List.getElem?_eq_getElem hi
    have ej : w2[j]? = some w2[j] := List.getElem?_eq_getElem hj
    rcases hcov i hi with h | ⟨h, hn⟩ <;> rcases hcov j hj with h' | ⟨h', hn'⟩
    · obtain ⟨k, hk1⟩ := List.getElem?_of_mem h
      obtain ⟨k', hk2⟩ := List.getElem?_of_mem h'
      have hkk : k ≠ k' := fun e => by
        subst e
        rw [hk1] at hk2
        cases hk2
        omega
      exact fl_apart hN1 hkk (fl_at hC1 hk1 ei) (fl_at hC1 hk2 ej) hq hq'
    · intro e
      exact ((inR h' hn' ej).2 q' hq').2 (by rw [← e]; exact inC h ei q hq)
    · intro e
      exact ((inR h hn ei).2 q hq).2 (by rw [e]; exact inC h' ej q' hq')
    · exact fl_apart hN (by omega) (inR h hn ei).1 (inR h' hn' ej).1 hq hq'
  · obtain ⟨c, hc, hqc⟩ := List.mem_flatten.mp hq
    obtain ⟨i, hi⟩ := List.getElem?_of_mem hc
    rcases hcov i (lt_of hi) with h | ⟨h, hn⟩
    · exact hF q.1 (inC h hi q hqc)
    · obtain ⟨k, hk2⟩ := List.getElem?_of_mem (fl_mem (inR h hn hi).1 hqc)
      exact hD.2 k q hk2
theorem gd_kI (X : gx p s m args c cc nL own Ts D cl tys A) {r : Int32} {wc w1 w2 wr : List va_W} {rest stk : List Value} (hrun : gd_Run p l e R s m args below meth c cells slots D cl tys nL pc lv stk rest (some (.int r)) wc w1) (isC isR : List Nat) (hnd : va_nd isC = true) (hC : isC.map (fun i => w[i]?) = wc.map some) (hC1 : isC.map (fun i => w2[i]?) = w1.map some) (hRa : isR.map (fun i => w[i]?) = wr.map some) (hRb : isR.map (fun i => w2[i]?) = wr.map some) (hcov : (List.range w2.length).all (fun i => isC.contains i || isR.contains i) = true ∧ isR.all (fun i => !isC.contains i) = true)
    (kk : Gd p l e R s m args below meth c cells slots Q D cl A nL (pc + 3) w2 lv (.int r :: rest)) : Gd p l e R s m args below meth c cells slots Q D cl A nL pc w lv stk := by
  intro H locs ls hP hD hS hl T hT X'
  obtain ⟨a, hr⟩ := hrun H locs ls (gd_pick hP hC) (gd_pickD hnd hD hC) hl
  have hFc := gd_freeC hD hS X.2.2.2.2.2.2 hC
  obtain ⟨v, st₀, t, T', L, h0, Xs, hL, e1, e2, ⟨hv, hP1, hK1, hD1, hz, hk⟩, stp⟩ := hr T hT X'
  cases hv
  rw [h0] at hz hk
  obtain ⟨hP2, hD2⟩ := gd_mix2 (H1 := T'.heap) hP hD hC hC1 (hRb.trans hRa.symm) (gd_cov hcov) (fun q h1 h2 => by rw [e1]; exact hk q h1 h2) hFc (by rw [e1]; exact hP1) hD1
  have hS2 : va_S A s.heap T'.heap (locs ++ L) := ⟨Nat.le_trans hS.1 (by rw [e1]; exact hz), fun q h1 h2 => by rw [e1, hk q (Nat.lt_of_lt_of_le h1 hS.1) (fun z => h2 (hFc q z))]; exact hS.2.1 q h1 h2, fun q hq => by
      rcases List.mem_append.mp hq with h | h
      · exact hS.2.2 q h
      · exact hFc _ (hL q h)⟩
  obtain ⟨t2, a1, b1⟩ := kk T'.heap (locs ++ L) ls hP2 hD2 hS2 hl T' rfl Xs
  exact ⟨t2, stp t2 a1, b1⟩
end GDL
