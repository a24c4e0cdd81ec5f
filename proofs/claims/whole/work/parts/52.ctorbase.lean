section GDC
variable {p : Program} {l : Launch} {e : Env} {R : Room} {s : State} {m : MethodId} {args : Array Value} {below : List Frame} {meth : Method} {c : Code} {cells slots : Nat} {Q : State → Prop}
variable {cc : ByteArray} {pc : Nat} {D : va_G} {cl : List vw_C} {tys : List (ClassId × FieldType)} {A : Nat → Prop} {nL : Nat} {own : String} {Ts : List Cond} {w : List va_W} {lv : List (Nat × Value)} {st : List Value}
theorem fl_push (w : List va_W) (x : Nat × va_E) : (w ++ [[x]]).flatten = w.flatten ++ [x] := by simp
theorem gd_newa (X : gx p s m args c cc nL own Ts D cl tys A) {n : Int32} {N' : Nat} {cI : ClassId} {ty : FieldType} {a0 : vp_A} {atype : ArrayType} (t0 : Nat) (ht : tys[t0]? = some (cI, ty)) (hat : newarray.typeOf atype = ty) (hra : ∀ z, va_RA s z ty → s.vm.findClass ("[" ++ ty.toString) = some z) (ha : ∀ cA : ClassId, vp_cell cA a0 = arrV cA N' (fun _ => defaultValue ty)) (harr : Cond.arrayClass ty ∈ Ts) (hn : ¬ n < 0) (hN : n.toNatClampNeg = N') (hbytes : N' * componentBytes ty ≤ 536870912) (hcells : cells + 1 ≤ R.cells) (hslots : slots + N' ≤ R.slots) (hdg : decode cc pc = .ok (.newarray atype, 2))
    (kk : ∀ q : Nat, Gd p l e R s m args below meth c (cells + 1) (slots + N') Q D cl A nL (pc + 2) (w ++ [[(q, .inl (cI, a0))]]) lv (.ref q :: st)) : Gd p l e R s m args below meth c cells slots Q D cl A nL pc w lv (.int n :: st) := by
  intro H locs ls hP hD hS hl
  refine va_newa (a0 := a0) X.1 X.2.1 (by rw [hat]; exact X.2.2.2.2.1 _ harr) hat X.2.2.2.2.2.1 hP hD hS X.2.2.2.2.2.2 ha hn hN hbytes hcells hslots hdg (fun q cA H1 hK1 hP1 hD1 hS1 => ?_)
  have e1 := hra cI (X.2.2.2.2.2.1.2 t0 _ ht).2
  have e2 := hra cA (hK1.2 tys.length (cA, ty) (by simp)).2
  have e3 : cA = cI := Option.some.inj (e2.symm.trans e1)
  subst e3
  exact kk q H1 locs ls (by rw [fl_push]; exact hP1) (by rw [fl_push]; exact hD1) hS1 hl
theorem gd_new (X : gx p s m args c cc nL own Ts D cl tys A) {C : String} {T : u_T} {N ci index : Nat} {fs : List Value} (ty : Nat → FieldType) (hty : ∀ k, k < N → parseFieldDescriptor (T k).2.2.1 = some (ty k)) (hin : ∀ w ∈ u_ws C T N, w ∈ Ts) (hcl : Cond.classLink own index C ∈ Ts) (hinst : Cond.instantiable C N ∈ Ts) (hini : Cond.initialized C ∈ Ts) (hc : cl[ci]? = some (C, T, N)) (hfs : ∀ j, j < N → defaultValue (ty j) = vp_V fs j) (hcells : cells + 1 ≤ R.cells) (hslots : slots + N ≤ R.slots) (hdg : decode cc pc = .ok (.new index, 3))
    (kk : ∀ q : Nat, Gd p l e R s m args below meth c (cells + 1) (slots + N) Q D cl A nL (pc + 3) (w ++ [[(q, .inr (ci, fs))]]) lv (.ref q :: st)) : Gd p l e R s m args below meth c cells slots Q D cl A nL pc w lv st := by
  intro H locs ls hP hD hS hl
  exact va_new X.1 X.2.1 X.2.2.2.2.1 hin ty hty X.2.2.2.1 (X.2.2.2.2.1 _ hcl) (X.2.2.2.2.1 _ hinst) (X.2.2.2.2.1 _ hini) X.2.2.2.2.2.1 hP hD hS X.2.2.2.2.2.2 hc hfs hcells hslots hdg (fun q H1 hP1 hD1 hS1 => kk q H1 locs ls (by rw [fl_push]; exact hP1) (by rw [fl_push]; exact hD1) hS1 hl)
theorem gd_oinit (X : gx p s m args c cc nL own Ts D cl tys A) {idx a : Nat} (h1 : Cond.methodLink own idx objectInit ∈ Ts) (h2 : Cond.instanceMethod objectInit ∈ Ts) (h3 : Cond.code objectInit ⟨#[0xb1]⟩ 1 none ∈ Ts) (hfr : 1 ≤ R.frames) (hlo : (st.map fun v => v.category).sum + 12 ≤ R.locals) (hdg : decode cc pc = .ok (.invokespecial idx, 3))
    (kk : Gd p l e R s m args below meth c cells slots Q D cl A nL (pc + 3) w lv st) : Gd p l e R s m args below meth c cells slots Q D cl A nL pc w lv (.ref a :: st) := by
  intro H locs ls hP hD hS hl
  exact W.objInit X.1 X.2.1 X.2.2.2.1 (X.2.2.2.2.1 _ h1) (X.2.2.2.2.1 _ h2) (X.2.2.2.2.1 _ h3) rfl (hl.1.trans X.2.2.1.symm) rfl hdg hfr (by show 2 * 0 + (st.map fun v => v.category).sum + 12 ≤ R.locals; omega) (kk H locs ls hP hD hS hl)
theorem gd_widen {k n : Nat} (h1 : cells ≤ k) (h2 : slots ≤ n) (kk : Gd p l e R s m args below meth c k n Q D cl A nL pc w lv st) : Gd p l e R s m args below meth c cells slots Q D cl A nL pc w lv st := by
  intro H locs ls hP hD hS hl
  exact W.widen h1 h2 (kk H locs ls hP hD hS hl)
theorem gd_weq {w' : List va_W} (h : w.flatten = w'.flatten) (kk : Gd p l e R s m args below meth c cells slots Q D cl A nL pc w' lv st) : Gd p l e R s m args below meth c cells slots Q D cl A nL pc w lv st := by
  intro H locs ls hP hD hS hl
  exact kk H locs ls (by rw [← h]; exact hP) (by rw [← h]; exact hD) hS hl
theorem gd_wid {w' : List va_W} (h : w = w') (kk : Gd p l e R s m args below meth c cells slots Q D cl A nL pc w' lv st) : Gd p l e R s m args below meth c cells slots Q D cl A nL pc w lv st := h ▸ kk
theorem gd_selD {cs : List va_W} {A : Nat → Prop} {w : List va_W} {isC : List Nat} (hnd : va_nd isC = true) (hD : va_D A w.flatten) (hC : isC.map (fun i => w[i]?) = cs.map some) : va_D A cs.flatten := by
  refine vD_of (vN_of (gd_pickD hnd hD hC)) (fun q hq => ?_)
  obtain ⟨i, -, c, hc, hqc⟩ := fl_sel hC q hq
  obtain ⟨k, hk⟩ := List.getElem?_of_mem (fl_mem hc hqc)
  exact hD.2 k q hk
theorem gd_ws {w' : List va_W} (is : List Nat) (hnd : va_nd is = true) (hm : is.map (fun i => w[i]?) = w'.map some) (kk : Gd p l e R s m args below meth c cells slots Q D cl A nL pc w' lv st) : Gd p l e R s m args below meth c cells slots Q D cl A nL pc w lv st := by
  intro H locs ls hP hD hS hl
  exact kk H locs ls (gd_pick hP hm) (gd_selD hnd hD hm) hS hl
def cq (D : va_G) (cl : List vw_C) (tys : List (ClassId × FieldType)) (PW : List va_W → Prop) (A : Nat → Prop) : Array Value → State → Outcome → State → Prop := fun _ st oc t => oc = .returned none ∧ (∃ w1 : List va_W, PW w1 ∧ va_P D cl w1.flatten t.heap ∧ va_D A w1.flatten) ∧ va_K D cl tys t ∧ va_F A st t
/-- a constructor: from the world wc to one that PW names; mc new cells of ms slots -/
def CMet (l : Launch) (y : MethodName) (ws : List Cond) (rm : Room) (D : va_G) (cl : List vw_C) (tys : List (ClassId × FieldType)) (As : List Value) (wc : List va_W) (PW : List va_W → Prop) (mc ms : Nat) : Prop :=
  ∀ sz : Nat, Met l y ws rm (va_Pc As (fun U => U.heap.size = sz ∧ va_P D cl wc.flatten U.heap ∧ va_K D cl tys U ∧ va_D (fun _ => True) wc.flatten)) (cq D cl tys PW (va_A wc.flatten sz)) mc ms (va_A wc.flatten sz)
theorem cm_of {y : MethodName} {ws ws' : List Cond} {rm : Room} {D : va_G} {cl : List vw_C} {tys : List (ClassId × FieldType)} {As : List Value} {wc : List va_W} {PW : List va_W → Prop} {mc ms : Nat} {cc : ByteArray} {maxL : Nat} (own : String) (hy : plainName y.cls = true) (ho : y.cls = own) (hinit : y.name = "<init>") (hw : ws = Cond.code y cc maxL none :: ws') (hlen : (lg_sl As).length ≤ maxL)
    (body : ∀ (p : Program) (e : Env) (s : State) (m : MethodId) (below : List Frame) (meth : Method) (c : Code) (A : Nat → Prop), gx p s m As.toArray c cc maxL own ws D cl tys A → meth.sig.returnType = none → meth.locks = false → meth.name = "<init>" → Gd p l e rm s m As.toArray below meth c 0 0 (MQ below (cq D cl tys PW A) As.toArray s mc ms A) D cl A maxL 0 wc (lv_args 0 As) []) : CMet l y ws rm D cl tys As wc PW mc ms := by
  intro sz
  refine Met.ofW (cc := cc) (maxL := maxL) (ret := none) hy hw ?_
  intro p e s m args below meth c s₁ B hml hv
  obtain ⟨rfl, hsz, hP, hK, hD0⟩ := hv
  have hts := atoms_spec (ws := ws) B.pre
  have hown : s.vm.findClass y.cls = some m.cls := findClass_of_methodNamed B.named
  have hin : meth.name = y.name := (name_of_methodNamed B.named B.method).1
  subst hsz
  have hl := lv_entry As (n := maxL) hlen
  rw [lg_entry_eq]
  exact body p e s m below meth c (va_A wc.flatten s.heap.size) ⟨B.exec, B.bytes, hml, ho ▸ hown, hts, hK, fun q h => Or.inr h⟩ B.returns B.notSynchronized (hin.trans hinit) s.heap [] _ hP hD0.self va_S.rf hl
theorem gd_vretC (X : gx p s m args c cc nL own Ts D cl tys A) {PW : List va_W → Prop} (hpw : PW w) (hr : meth.sig.returnType = none) (hlocks : meth.locks = false) (hdg : decode cc pc = .ok (.return_, 1)) : Gd p l e R s m args below meth c cells slots (MQ below (cq D cl tys PW A) args s cells slots A) D cl A nL pc w lv [] := by
  intro H locs ls hP hD hS hl
  exact W.vret X.1 X.2.1 hr (fun t ht hW => ⟨rfl, ⟨w, hpw, by rw [ht]; exact hP, hD⟩, va_K.moved hW.alike X.2.2.2.2.2.1, hS.F ht⟩) hS.2.2 hdg hlocks
theorem gd_join {cs w1 wr : List va_W} {H H1 : Heap} {A : Nat → Prop} {D : va_G} {cl : List vw_C} {w : List va_W} {isC isR : List Nat} (hP : va_P D cl w.flatten H) (hD : va_D A w.flatten) (hC : isC.map (fun i => w[i]?) = cs.map some) (hRr : isR.map (fun i => w[i]?) = wr.map some) (hnd : va_nd isR = true) (hdis : ∀ i ∈ isR, i ∉ isC)
    (hk : ∀ q : Nat, q < H.size → ¬ va_A cs.flatten H.size q → H1[q]? = H[q]?) (hF : ∀ q, va_A cs.flatten H.size q → A q) (hP1 : va_P D cl w1.flatten H1) (hD1 : va_D (va_A cs.flatten H.size) w1.flatten) : va_P D cl (wr ++ w1).flatten H1 ∧ va_D A (wr ++ w1).flatten := by
  have hN := vN_of hD
  have apart : ∀ q ∈ wr.flatten, va_at D cl q H ∧ ¬ va_A cs.flatten H.size q.1 := by
    intro q hq
    obtain ⟨i, hi, c, hc, hqc⟩ := fl_sel hRr q hq
    have hat := vP_iff.mp hP q (fl_mem hc hqc)
    refine ⟨hat, fun ha => ?_⟩
    rcases vA_iff.mp ha with ⟨q', hq', e'⟩ | h2
    · obtain ⟨j, hj, c', hc', hqc'⟩ := fl_sel hC q' hq'
      exact fl_apart hN (i := i) (j := j) (fun e => hdis i hi (by rw [e]; exact hj)) hc hc' hqc hqc' e'.symm
    · exact absurd hat.lt (Nat.not_lt.mpr h2)
  rw [List.flatten_append]
  have hDr := gd_selD hnd hD hRr
  refine ⟨va_P.app (vP_iff.mpr (fun q hq => (apart q hq).1.kept (hk q.1 (apart q hq).1.lt (apart q hq).2))) hP1, va_D.app hDr (hD1.weaken (fun k q _ h => hF q.1 h)) (fun i j x y hx hy hxy => ?_)⟩
  exact (apart x (List.mem_of_getElem? hx)).2 (by rw [hxy]; exact hD1.2 j y hy)
/-- a constructor's call -/
theorem gd_I (X : gx p s m args c cc nL own Ts D cl tys A) {y : MethodName} {bytes : ByteArray} {maxL index b mc ms : Nat} {ws ws' : List Cond} {rm : Room} {As rest stk : List Value} {wc wr : List va_W} {PW : List va_W → Prop} (hM : CMet l y ws rm D cl tys (.ref b :: As) wc PW mc ms) (n : Nat) (hG : GoodIn Ts ws) (hw : ws = Cond.code y bytes maxL none :: ws') (hrm : rm.cells = mc ∧ rm.slots = ms) (hini : Cond.initialized y.cls ∈ Ts) (hlk : Cond.methodLink own index y ∈ Ts) (hin : Cond.instanceMethod y ∈ Ts) (hy1 : y.name = "<init>")
    (hd : y.cls ≠ "java/lang/invoke/MethodHandle" ∧ y.cls ≠ "java/lang/invoke/VarHandle" ∧ (parseMethodDescriptor y.desc).map (fun d => d.parameters.length) = some n) (hRm : rm.frames + 1 ≤ R.frames ∧ 8 + (maxL + 11) + rm.locals ≤ R.locals) (hn : As.length = n) (hstk : stk = As.reverse ++ .ref b :: rest) (hroom : (rest.map fun v => v.category).sum ≤ 8) (hcs : cells + mc ≤ R.cells ∧ slots + ms ≤ R.slots) (hdg : decode cc pc = .ok (.invokespecial index, 3))
    (isC isR : List Nat) (hndC : va_nd isC = true) (hC : isC.map (fun i => w[i]?) = wc.map some) (hRr : isR.map (fun i => w[i]?) = wr.map some) (hnd : va_nd isR = true) (hdis : ∀ i ∈ isR, i ∉ isC)
    (kk : ∀ w1, PW w1 → Gd p l e R s m args below meth c (cells + mc) (slots + ms) Q D cl A nL (pc + 3) (wr ++ w1) lv rest) : Gd p l e R s m args below meth c cells slots Q D cl A nL pc w lv stk := by
  intro H locs ls hP hD hS hl T hT X'
  subst hstk
  have hPc := gd_pick hP hC
  have hDc := gd_pickD hndC hD hC
  have hFc := gd_freeC hD hS X.2.2.2.2.2.2 hC
  have hr := va_runI (p := p) (l := l) (e := e) (args := args) (below := below) (meth := meth) (g := F0 m pc ls (As.reverse ++ .ref b :: rest)) (R := R) (H := H) (locs := locs) (cells := cells) (slots := slots) (As := As) (rest := rest) ⟨X.1, X.2.1, X.2.2.1, X.2.2.2.1, X.2.2.2.2.1⟩ (hM H.size) (cwI n X.2.2.2.2.1 hG hw hrm.1 hrm.2 (X.2.2.2.2.1 _ hini) (X.2.2.2.2.1 _ hlk) (X.2.2.2.2.1 _ hin) hy1 hd hRm) ⟨gd_blind, fun U hU hW => ⟨rfl, by rw [hU], by rw [hU]; exact hPc, va_K.moved hW.alike X.2.2.2.2.2.1, hDc⟩⟩ rfl hn hl.1 rfl (lv_room hroom) hdg hcs
  obtain ⟨v, st₀, t, T', L, h0, Xs, hL, e1, e2, ⟨hv, ⟨w1, hpw, hP1, hD1⟩, hK1, hz, hk⟩, stp⟩ := hr T hT X'
  cases hv
  rw [h0] at hz hk
  obtain ⟨hP2, hD2⟩ := gd_join (H1 := T'.heap) hP hD hC hRr hnd hdis (fun q h1 h2 => by rw [e1]; exact hk q h1 h2) hFc (by rw [e1]; exact hP1) hD1
  have hS2 : va_S A s.heap T'.heap (locs ++ L) := ⟨Nat.le_trans hS.1 (by rw [e1]; exact hz), fun q h1 h2 => by rw [e1, hk q (Nat.lt_of_lt_of_le h1 hS.1) (fun z => h2 (hFc q z))]; exact hS.2.1 q h1 h2, fun q hq => by
      rcases List.mem_append.mp hq with h | h
      · exact hS.2.2 q h
      · exact hFc _ (hL q h)⟩
  obtain ⟨t2, a1, b1⟩ := kk w1 hpw T'.heap (locs ++ L) ls hP2 hD2 hS2 hl T' rfl Xs
  exact ⟨t2, stp t2 a1, b1⟩
/-- the law's script -/
theorem gd_sld (X : gx p s m args c cc nL own Ts D cl tys A) {b L : Nat} {xs : Nat → Int32} (hX : va_X b L xs s s.heap) (hbl : b < s.heap.size) (hbA : ¬ A b) {i : Int32} (hin : vp_in i L) (hdg : decode cc pc = .ok (.iaload, 1))
    (kk : Gd p l e R s m args below meth c cells slots Q D cl A nL (pc + 1) w lv (.int (xs i.toNatClampNeg) :: st)) : Gd p l e R s m args below meth c cells slots Q D cl A nL pc w lv (.int i :: .ref b :: st) := by
  intro H locs ls hP hD hS hl
  exact va_sld X.1 X.2.1 hX hbl hbA hS hin hdg (kk H locs ls hP hD hS hl)
theorem gd_slen (X : gx p s m args c cc nL own Ts D cl tys A) {b L : Nat} {xs : Nat → Int32} (hX : va_X b L xs s s.heap) (hbl : b < s.heap.size) (hbA : ¬ A b) (hdg : decode cc pc = .ok (.arraylength, 1))
    (kk : Gd p l e R s m args below meth c cells slots Q D cl A nL (pc + 1) w lv (.int (nI L) :: st)) : Gd p l e R s m args below meth c cells slots Q D cl A nL pc w lv (.ref b :: st) := by
  intro H locs ls hP hD hS hl
  exact va_slen X.1 X.2.1 hX hbl hbA hS hdg (kk H locs ls hP hD hS hl)
theorem gi_I {c c' : Cond} (h : c' ∈ TB) : GoodIn (c :: TB) (c' :: TB) := gi_tb h
end GDC
