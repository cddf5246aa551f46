/-! The worlds of the two objects, a state of naturals for each, and rows over them. -/
abbrev wg_S : Type := Nat → Nat → Nat
def wg_st (I : wg_S) (k j v : Nat) : wg_S := fun a => if a = k then (fun b => if b = j then v else I a b) else I a
theorem wg_st_s (I : wg_S) (k j v : Nat) : wg_st I k j v k j = v := by simp [wg_st]
theorem wg_st_n (I : wg_S) (k j v : Nat) {b : Nat} (h : b ≠ j) : wg_st I k j v k b = I k b := by simp [wg_st, h]
theorem wg_st_o (I : wg_S) (k j v : Nat) {a : Nat} (h : a ≠ k) : wg_st I k j v a = I a := by simp [wg_st, h]
def wg_ai (cI : ClassId) (n : Nat) (f : Nat → Nat) : va_E := .inl (cI, n, .inl (fun j => nI (f j)))
def wg_aj (cJ : ClassId) (n : Nat) (f : Nat → Nat) : va_E := .inl (cJ, n, .inr (.inl (fun j => lN (f j))))
def wg_FX (ad : Nat → Nat) (I : wg_S) : List Value := [.ref (ad 0), .ref (ad 1), .ref (ad 2), .int (nI (I 3 0)), .int (nI (I 4 0)), .ref (ad 5), .ref (ad 6), .ref (ad 7), .int (nI (I 8 0)), .ref (ad 9), .ref (ad 10), .int (nI (I 11 0)), .ref (ad 12), .ref (ad 13)]
def wg_WX (cJ cI : ClassId) (h0 : Nat) (ad : Nat → Nat) (I : wg_S) : va_W := [(h0, .inr (0, wg_FX ad I)), (ad 0, wg_aj cJ 48 (I 0)), (ad 1, wg_ai cI 48 (I 1)), (ad 2, wg_ai cI 48 (I 2)), (ad 5, wg_ai cI 624 (I 5)), (ad 6, wg_ai cI 577 (I 6)), (ad 7, wg_ai cI 577 (I 7)), (ad 9, wg_ai cI 48 (I 9)), (ad 10, wg_ai cI 48 (I 10)), (ad 12, wg_ai cI 169 (I 12)), (ad 13, wg_ai cI 48 (I 13))]
def wg_FM (ad : Nat → Nat) (I : wg_S) : List Value := [.ref (ad 0), .int (nI (I 1 0)), .int (nI (I 2 0)), .int (nI (I 3 0)), .ref (ad 4), .ref (ad 5), .ref (ad 6), .ref (ad 7), .ref (ad 8), .int (nI (I 9 0)), .ref (ad 10)]
def wg_WM (cJ cI : ClassId) (h0 : Nat) (ad : Nat → Nat) (I : wg_S) : va_W := [(h0, .inr (1, wg_FM ad I)), (ad 0, wg_aj cJ 48 (I 0)), (ad 4, wg_ai cI 48 (I 4)), (ad 5, wg_ai cI 48 (I 5)), (ad 6, wg_ai cI 624 (I 6)), (ad 7, wg_ai cI 625 (I 7)), (ad 8, wg_ai cI 625 (I 8)), (ad 10, wg_ai cI 169 (I 10))]
def wg_W0 (_ : wg_S) : va_W := []
abbrev wg_cl : List vw_C := [(R_X, F_X, 14), (R_M, F_M, 11)]
abbrev wg_ty (cJ cI : ClassId) : List (ClassId × FieldType) := [(cJ, .long), (cI, .int)]
def wg_ws (y : MethodName) (b : ByteArray) (n : Nat) (ret : Option FieldType) : List Cond := .code y b n ret :: wg_tbl
theorem wg_good (w : Cond) (h : w ∈ wg_tbl) : (w.onTables && w.keeps) = true ∨ ∃ ty, w = .arrayClass ty := by
  have h1 := (List.mem_filter.mp h).2
  by_cases hc : k2_isCode w = true
  · cases w <;> first | (simp [k2_isCode] at hc; done) | exact Or.inl rfl
  · simp only [Bool.or_eq_true] at h1
    exact good_of_word (h1.resolve_left hc)
theorem wg_GI {y : MethodName} {b : ByteArray} {n : Nat} {ret : Option FieldType} (h : Cond.code y b n ret ∈ wg_tbl) : GoodIn wg_tbl (wg_ws y b n ret) := by
  intro w hw
  rcases List.mem_cons.mp hw with rfl | hw
  · exact ⟨h, Or.inl rfl⟩
  · exact ⟨hw, wg_good w hw⟩
/-- what a call of y by the pool's place 'index' of own needs of the tables -/
def wg_OKb (own : String) (index : Nat) (y : MethodName) (b : ByteArray) (maxL : Nat) (ret : Option FieldType) (n : Nat) : Prop :=
  Cond.code y b maxL ret ∈ wg_tbl ∧ Cond.methodLink own index y ∈ wg_tbl ∧ Cond.initialized y.cls ∈ wg_tbl ∧ (y.cls ≠ "java/lang/invoke/MethodHandle" ∧ y.cls ≠ "java/lang/invoke/VarHandle" ∧ (parseMethodDescriptor y.desc).map (fun d => d.parameters.length) = some n)
def wg_OKs (own : String) (index : Nat) (y : MethodName) (b : ByteArray) (maxL : Nat) (ret : Option FieldType) (n : Nat) : Prop := wg_OKb own index y b maxL ret n ∧ Cond.static y ∈ wg_tbl
def wg_OKv (own : String) (index : Nat) (y : MethodName) (b : ByteArray) (maxL : Nat) (ret : Option FieldType) (n : Nat) : Prop := wg_OKb own index y b maxL ret n ∧ Cond.instanceMethod y ∈ wg_tbl ∧ Cond.selects y.cls y y ∈ wg_tbl
/-- a contract's start -/
def wg_Pc (D : va_G) (cJ cI : ClassId) (ws : va_W) (sz : Nat) (U : State) : Prop := U.heap.size = sz ∧ va_P D wg_cl ws U.heap ∧ va_K D wg_cl (wg_ty cJ cI) U ∧ va_D (fun _ => True) ws
theorem wg_blind {D : va_G} {cJ cI : ClassId} {ws : va_W} {sz : Nat} {av : List Value} : FrameBlind (va_Pc av (wg_Pc D cJ cI ws sz)) := fun a U g mk q => by
  obtain ⟨q0, q1, qP, qK, qD⟩ := q
  exact ⟨q0, q1, qP, va_K.moved (u := U) (U := U.calling g mk a) (Vm.Alike.refl U.vm) qK, qD⟩
theorem wg_pre {D : va_G} {cJ cI : ClassId} {ws : va_W} {av : List Value} {s : State} {H : Heap} {A : Nat → Prop} (hK : va_K D wg_cl (wg_ty cJ cI) s) (hP : va_P D wg_cl ws H) (hD : va_D A ws) : ∀ U : State, U.heap = H → s.WarmedH U.vm → va_Pc av (wg_Pc D cJ cI ws H.size) av.toArray U :=
  fun U hU hW => ⟨rfl, by rw [hU], by rw [hU]; exact hP, va_K.moved hW.alike hK, hD.weaken (fun _ _ _ _ => trivial)⟩
theorem wg_free {A : Nat → Prop} {ws : va_W} {H0 H : Heap} {locs : List Loc} (hD : va_D A ws) (hS : va_S A H0 H locs) (hA : ∀ q, H0.size ≤ q → A q) : ∀ q, va_A ws H.size q → A q := by
  rintro q (⟨k, e, h⟩ | h)
  · exact hD.2 k _ h
  · exact hA q (Nat.le_trans hS.1 h)
/-- worlds of the same addresses -/
def wg_same (w1 w2 : va_W) : Prop := w1.map (fun q => q.1) = w2.map (fun q => q.1)
theorem wg_same_at {w1 w2 : va_W} (h : wg_same w1 w2) {k : Nat} {q : Nat × va_E} (hq : w2[k]? = some q) : ∃ r, w1[k]? = some r ∧ r.1 = q.1 := by
  have h1 : (w1.map (fun q => q.1))[k]? = some q.1 := by
    have h0 : w1.map (fun q => q.1) = w2.map (fun q => q.1) := h
    rw [h0, List.getElem?_map, hq]
    rfl
  rw [List.getElem?_map] at h1
  cases hw : w1[k]? with
  | none => rw [hw] at h1; cases h1
  | some r => rw [hw] at h1; exact ⟨r, rfl, Option.some.inj h1⟩
theorem wg_same_D {w1 w2 : va_W} {A : Nat → Prop} (h : wg_same w1 w2) (hD : va_D A w1) : va_D A w2 := by
  refine ⟨fun i j p q hp hq e => ?_, fun k q hk => ?_⟩
  · obtain ⟨p', h1, e1⟩ := wg_same_at h hp
    obtain ⟨q', h2, e2⟩ := wg_same_at h hq
    exact hD.1 i j p' q' h1 h2 (by rw [e1, e2, e])
  · obtain ⟨r, h1, e1⟩ := wg_same_at h hk
    rw [← e1]
    exact hD.2 k r h1
theorem wg_same_X {cJ cI : ClassId} {h0 : Nat} {ad : Nat → Nat} (I J : wg_S) : wg_same (wg_WX cJ cI h0 ad I) (wg_WX cJ cI h0 ad J) := rfl
theorem wg_same_M {cJ cI : ClassId} {h0 : Nat} {ad : Nat → Nat} (I J : wg_S) : wg_same (wg_WM cJ cI h0 ad I) (wg_WM cJ cI h0 ad J) := rfl
theorem wg_same_0 (I J : wg_S) : wg_same (wg_W0 I) (wg_W0 J) := rfl
theorem wg_h {D : va_G} {ws : va_W} {t : State} {H : Heap} (ht : t.heap = H) (hP : va_P D wg_cl ws H) : va_P D wg_cl ws t.heap := by rw [ht]; exact hP
/-- the head of any method over a world -/
theorem wg_head {l : Launch} {y : MethodName} {b : ByteArray} {nL mc ms : Nat} {ret : Option FieldType} {rm : Room} {D : va_G} {cJ cI : ClassId} {Wd : wg_S → va_W} {I : wg_S} {sz : Nat} {av : List Value} (Qf : (Nat → Prop) → Array Value → State → Outcome → State → Prop) (C : String) (hy : plainName y.cls = true) (hC : y.cls = C) (hlen : (lg_sl av).length ≤ nL) (hWd : ∀ I J, wg_same (Wd I) (Wd J))
    (body : ∀ (p : Program) (e : Env) (s : State) (m : MethodId) (below : List Frame) (meth : Method) (c : Code) (A : Nat → Prop) (ls : Array Slot), p.tables.exec = Jvm.exec → c.code = b → meth.sig.returnType = ret → meth.locks = false → c.maxLocals = nL → s.vm.findClass C = some m.cls → meth.name = y.name → (∀ w ∈ wg_tbl, w.before av.toArray s = true) →
      (∀ q, s.heap.size ≤ q → A q) → va_K D wg_cl (wg_ty cJ cI) s → (∀ J, va_D A (Wd J)) → va_P D wg_cl (Wd I) s.heap → va_S A s.heap s.heap [] → lv_has ls nL (lv_args 0 av) → s.heap.size = sz →
      W p l e (headSpec (wg_ws y b nL ret) rm).room s m av.toArray below meth c s.heap [] 0 0 (MQ below (Qf A) av.toArray s mc ms A) (F0 m 0 ls [])) :
    Met l y (wg_ws y b nL ret) rm (va_Pc av (wg_Pc D cJ cI (Wd I) sz)) (Qf (va_A (Wd I) sz)) mc ms (va_A (Wd I) sz) := by
  refine Met.ofW (cc := b) (maxL := nL) (ret := ret) hy rfl ?_
  intro p e s m args below meth c s₁ B hml hv
  obtain ⟨rfl, hsz, hP, hK, hD0⟩ := hv
  have hts := atoms_spec (ws := wg_ws y b nL ret) B.pre
  have hown : s.vm.findClass C = some m.cls := hC ▸ findClass_of_methodNamed B.named
  have hl := lv_entry av (n := nL) hlen
  rw [lg_entry_eq]
  subst hsz
  exact body p e s m below meth c (va_A (Wd I) s.heap.size) _ B.exec B.bytes B.returns B.notSynchronized hml hown (name_of_methodNamed B.named B.method).1 (fun w h => hts w (List.mem_cons_of_mem _ h)) (fun q h => Or.inr h) hK (fun J => wg_same_D (hWd I J) (hD0.self (sz := s.heap.size))) hP va_S.rf hl rfl
section WG
variable {p : Program} {l : Launch} {e : Env} {R : Room} {s : State} {m : MethodId} {args : Array Value} {below : List Frame} {meth : Method} {c : Code} {H : Heap} {locs : List Loc} {cells slots : Nat} {Q : State → Prop}
variable {cc : ByteArray} {pc : Nat} {ls : Array Slot} {rest : List Value} {D : va_G} {A : Nat → Prop} {a : Nat} {cJ cI : ClassId} {ws : va_W} {H0 : Heap}
/-- a loop: three naturals and a state that change, a measure that falls -/
theorem wg_loop (Inv : Nat → Nat → Nat → wg_S → Heap → List Loc → Array Slot → Prop) (mu : Nat → Nat → Nat → wg_S → Nat)
    (step : ∀ (x y z : Nat) (I : wg_S) (H : Heap) (locs : List Loc) (ls : Array Slot), Inv x y z I H locs ls → (∀ (x' y' z' : Nat) (I' : wg_S) (H' : Heap) (locs' : List Loc) (ls' : Array Slot), Inv x' y' z' I' H' locs' ls' → mu x' y' z' I' < mu x y z I → W p l e R s m args below meth c H' locs' cells slots Q (F0 m pc ls' rest)) → W p l e R s m args below meth c H locs cells slots Q (F0 m pc ls rest))
    (x y z : Nat) (I : wg_S) (H : Heap) (locs : List Loc) (ls : Array Slot) (h : Inv x y z I H locs ls) : W p l e R s m args below meth c H locs cells slots Q (F0 m pc ls rest) := by
  have key : ∀ (n x y z : Nat) (I : wg_S) (H : Heap) (locs : List Loc) (ls : Array Slot), mu x y z I < n → Inv x y z I H locs ls → W p l e R s m args below meth c H locs cells slots Q (F0 m pc ls rest) := by
    intro n
    induction n with
    | zero => intro x y z I H locs ls h; omega
    | succ n ih => intro x y z I H locs ls h hI; exact step x y z I H locs ls hI (fun x' y' z' I' H' locs' ls' hI' hm => ih x' y' z' I' H' locs' ls' (by omega) hI')
  exact key _ x y z I H locs ls (Nat.lt_succ_self _) h
theorem wg_ild (hx : p.tables.exec = Jvm.exec) (hb : c.code = cc) (hK : va_K D wg_cl (wg_ty cJ cI) s) (hP : va_P D wg_cl ws H) (q0 : Nat) {n : Nat} {f : Nat → Nat} (ha : ws[q0]? = some (a, wg_ai cI n f)) {j : Nat} (hj : j < n) (hn : n < 2 ^ 31) (hdg : decode cc pc = .ok (.iaload, 1))
    (kk : W p l e R s m args below meth c H locs cells slots Q (F0 m (pc + 1) ls (.int (nI (f j)) :: rest))) : W p l e R s m args below meth c H locs cells slots Q (F0 m pc ls (.int (nI j) :: .ref a :: rest)) := by
  refine va_iald hx hb hK hP q0 1 (f := fun j => nI (f j)) ha rfl (vp_in_nI hj hn) hdg ?_
  rw [nI_clamp (Nat.lt_trans hj hn)]
  exact kk
theorem wg_lld (hx : p.tables.exec = Jvm.exec) (hb : c.code = cc) (hK : va_K D wg_cl (wg_ty cJ cI) s) (hP : va_P D wg_cl ws H) (q0 : Nat) {n : Nat} {f : Nat → Nat} (ha : ws[q0]? = some (a, wg_aj cJ n f)) {j : Nat} (hj : j < n) (hn : n < 2 ^ 31) (hdg : decode cc pc = .ok (.laload, 1))
    (kk : W p l e R s m args below meth c H locs cells slots Q (F0 m (pc + 1) ls (.long (lN (f j)) :: rest))) : W p l e R s m args below meth c H locs cells slots Q (F0 m pc ls (.int (nI j) :: .ref a :: rest)) := by
  refine va_lald hx hb hK hP q0 0 (f := fun j => lN (f j)) ha rfl (vp_in_nI hj hn) hdg ?_
  rw [nI_clamp (Nat.lt_trans hj hn)]
  exact kk
theorem wg_ist (hx : p.tables.exec = Jvm.exec) (hb : c.code = cc) (hK : va_K D wg_cl (wg_ty cJ cI) s) (hP : va_P D wg_cl ws H) (hD : va_D A ws) (hS : va_S A H0 H locs) (q0 : Nat) {n : Nat} {f : Nat → Nat} (ha : ws[q0]? = some (a, wg_ai cI n f)) {j x : Nat} (hj : j < n) (hn : n < 2 ^ 31) (hdg : decode cc pc = .ok (.iastore, 1))
    (kk : ∀ (H1 : Heap) (locs1 : List Loc), va_P D wg_cl (ws.set q0 (a, wg_ai cI n (fun b => if b = j then x else f b))) H1 → va_S A H0 H1 locs1 → W p l e R s m args below meth c H1 locs1 cells slots Q (F0 m (pc + 1) ls rest)) : W p l e R s m args below meth c H locs cells slots Q (F0 m pc ls (.int (nI x) :: .int (nI j) :: .ref a :: rest)) := by
  refine va_iast hx hb hK hP hD hS q0 1 (f := fun j => nI (f j)) ha rfl (vp_in_nI hj hn) hdg (fun H1 locs1 h1 _ h3 => kk H1 locs1 ?_ h3)
  have e : upd (fun j => nI (f j)) (nI j).toNatClampNeg (nI x) = fun b => nI (if b = j then x else f b) := by
    funext b
    rw [nI_clamp (Nat.lt_trans hj hn)]
    unfold upd
    split <;> rfl
  rw [e] at h1
  exact h1
theorem wg_lst (hx : p.tables.exec = Jvm.exec) (hb : c.code = cc) (hK : va_K D wg_cl (wg_ty cJ cI) s) (hP : va_P D wg_cl ws H) (hD : va_D A ws) (hS : va_S A H0 H locs) (q0 : Nat) {n : Nat} {f : Nat → Nat} (ha : ws[q0]? = some (a, wg_aj cJ n f)) {j x : Nat} (hj : j < n) (hn : n < 2 ^ 31) (hdg : decode cc pc = .ok (.lastore, 1))
    (kk : ∀ (H1 : Heap) (locs1 : List Loc), va_P D wg_cl (ws.set q0 (a, wg_aj cJ n (fun b => if b = j then x else f b))) H1 → va_S A H0 H1 locs1 → W p l e R s m args below meth c H1 locs1 cells slots Q (F0 m (pc + 1) ls rest)) : W p l e R s m args below meth c H locs cells slots Q (F0 m pc ls (.long (lN x) :: .int (nI j) :: .ref a :: rest)) := by
  refine va_last hx hb hK hP hD hS q0 0 (f := fun j => lN (f j)) ha rfl (vp_in_nI hj hn) hdg (fun H1 locs1 h1 _ h3 => kk H1 locs1 ?_ h3)
  have e : vp_updL (fun j => lN (f j)) (nI j).toNatClampNeg (lN x) = fun b => lN (if b = j then x else f b) := by
    funext b
    rw [nI_clamp (Nat.lt_trans hj hn)]
    unfold vp_updL
    split <;> rfl
  rw [e] at h1
  exact h1
theorem wg_kept {H1 : Heap} (hP : va_P D wg_cl ws H) (h : ∀ q : Nat, q < H.size → ¬ va_A (wg_W0 fun _ _ => 0) H.size q → H1[q]? = H[q]?) : va_P D wg_cl ws H1 := hP.kept (fun k q hk => h q.1 (hP k q hk).lt (by
  rintro (⟨k', e', h'⟩ | h')
  · cases h'
  · exact absurd (hP k q hk).lt (Nat.not_lt.mpr h')))
section CALLS
variable {own : String} {index maxL n nL : Nat} {y : MethodName} {bytes : ByteArray} {ret : Option FieldType} {rm : Room} {As st0 : List Value} {St : Type} {ci h0 : Nat} {fs : List Value}
theorem wg_runs {Pc : Array Value → State → Prop} {Qc : Array Value → State → Outcome → State → Prop} {free : Addr → Prop} (hx : p.tables.exec = Jvm.exec) (hb : c.code = cc) (hml : c.maxLocals = nL) (hown : s.vm.findClass own = some m.cls) (hts : ∀ w ∈ wg_tbl, w.before args s = true) (hM : Met l y (wg_ws y bytes maxL ret) rm Pc Qc 0 0 free) (ok : wg_OKs own index y bytes maxL ret n) (hp : PreS s H Pc As) (hrc : rm.cells = 0 ∧ rm.slots = 0) (hR : rm.frames + 1 ≤ R.frames ∧ 8 + (maxL + 11) + rm.locals ≤ R.locals) (hn : As.length = n) (hsz : ls.size = nL) (hst : st0 = As.reverse ++ rest) (hrm : (rest.map fun v => v.category).sum ≤ 8) (hdg : decode cc pc = .ok (.invokestatic index, 3)) (hcs : cells ≤ R.cells ∧ slots ≤ R.slots) :
    va_Run p l e R s m args below meth c H locs cells slots 0 0 (F0 m pc ls st0) rest (Qc As.toArray) free := by
  obtain ⟨⟨h1, h2, h3, h4⟩, h5⟩ := ok
  exact va_runS ⟨hx, hb, hml, hown, hts⟩ hM ⟨callB_of n hts (wg_GI h1) rfl hrc.1 hrc.2 (hts _ h3) (hts _ h2) h4 hR, hts _ h5⟩ hp rfl hn hsz hst (lv_room hrm) hdg hcs
theorem wg_runv {Pc : Array Value → State → Prop} {Qc : Array Value → State → Outcome → State → Prop} {free : Addr → Prop} (hx : p.tables.exec = Jvm.exec) (hb : c.code = cc) (hml : c.maxLocals = nL) (hown : s.vm.findClass own = some m.cls) (hts : ∀ w ∈ wg_tbl, w.before args s = true) (hM : Met l y (wg_ws y bytes maxL ret) rm Pc Qc 0 0 free) (ok : wg_OKv own index y bytes maxL ret n) (hp : PreV s H y.cls a Pc As) (hrc : rm.cells = 0 ∧ rm.slots = 0) (hR : rm.frames + 1 ≤ R.frames ∧ 8 + (maxL + 11) + rm.locals ≤ R.locals) (hn : As.length = n) (hsz : ls.size = nL) (hst : st0 = As.reverse ++ .ref a :: rest) (hrm : (rest.map fun v => v.category).sum ≤ 8) (hdg : decode cc pc = .ok (.invokevirtual index, 3)) (hcs : cells ≤ R.cells ∧ slots ≤ R.slots) :
    va_Run p l e R s m args below meth c H locs cells slots 0 0 (F0 m pc ls st0) rest (Qc (Value.ref a :: As).toArray) free := by
  obtain ⟨⟨h1, h2, h3, h4⟩, h5, h6⟩ := ok
  exact va_runV ⟨hx, hb, hml, hown, hts⟩ hM ⟨callB_of n hts (wg_GI h1) rfl hrc.1 hrc.2 (hts _ h3) (hts _ h2) h4 hR, hts _ h5, hts _ h6⟩ hp rfl hn hsz hst (lv_room hrm) hdg hcs
/-- a static call that answers an int -/
theorem wg_csi {post : Int32 → Unit → Prop} (hx : p.tables.exec = Jvm.exec) (hb : c.code = cc) (hml : c.maxLocals = nL) (hown : s.vm.findClass own = some m.cls) (hts : ∀ w ∈ wg_tbl, w.before args s = true) (hK : va_K D wg_cl (wg_ty cJ cI) s) (hP : va_P D wg_cl ws H) (hS : va_S A H0 H locs) (hA : ∀ q, H0.size ≤ q → A q)
    (hM : Met l y (wg_ws y bytes maxL ret) rm (va_Pc As (wg_Pc D cJ cI (wg_W0 fun _ _ => 0) H.size)) (va_Qi post (fun (_ : Unit) _ => True) (va_A (wg_W0 fun _ _ => 0) H.size)) 0 0 (va_A (wg_W0 fun _ _ => 0) H.size))
    (ok : wg_OKs own index y bytes maxL ret n) (hrc : rm.cells = 0 ∧ rm.slots = 0) (hR : rm.frames + 1 ≤ R.frames ∧ 8 + (maxL + 11) + rm.locals ≤ R.locals) (hn : As.length = n) (hsz : ls.size = nL) (hst : st0 = As.reverse ++ rest) (hrm : (rest.map fun v => v.category).sum ≤ 8) (hdg : decode cc pc = .ok (.invokestatic index, 3)) (hcs : cells ≤ R.cells ∧ slots ≤ R.slots)
    (kk : ∀ (r : Int32) (H1 : Heap) (locs1 : List Loc), post r () → va_P D wg_cl ws H1 → va_S A H0 H1 locs1 → W p l e R s m args below meth c H1 locs1 cells slots Q (F0 m (pc + 3) ls (.int r :: rest))) : W p l e R s m args below meth c H locs cells slots Q (F0 m pc ls st0) := by
  have hF : ∀ q, va_A (wg_W0 fun _ _ => 0) H.size q → A q := by
    rintro q (⟨k', e', h'⟩ | h')
    · cases h'
    · exact hA q (Nat.le_trans hS.1 h')
  have hD0 : va_D A (wg_W0 fun _ _ => 0) := ⟨fun i j p q h => (by cases h), fun k q h => (by cases h)⟩
  have hP0 : va_P D wg_cl (wg_W0 fun _ _ => 0) H := fun k q h => by cases h
  exact va_calli (wg_runs hx hb hml hown hts hM ok ⟨wg_blind, wg_pre hK hP0 hD0⟩ hrc hR hn hsz hst hrm hdg hcs) hS (fun q _ h => hF q h) hF (fun r u t H1 locs1 ht hvm hq hB hz1 hk1 hS1 => kk r H1 locs1 hq (wg_kept hP hk1) hS1)
/-- a static call that answers a long -/
theorem wg_csl {post : Int64 → Unit → Prop} (hx : p.tables.exec = Jvm.exec) (hb : c.code = cc) (hml : c.maxLocals = nL) (hown : s.vm.findClass own = some m.cls) (hts : ∀ w ∈ wg_tbl, w.before args s = true) (hK : va_K D wg_cl (wg_ty cJ cI) s) (hP : va_P D wg_cl ws H) (hS : va_S A H0 H locs) (hA : ∀ q, H0.size ≤ q → A q)
    (hM : Met l y (wg_ws y bytes maxL ret) rm (va_Pc As (wg_Pc D cJ cI (wg_W0 fun _ _ => 0) H.size)) (va_Ql post (fun (_ : Unit) _ => True) (va_A (wg_W0 fun _ _ => 0) H.size)) 0 0 (va_A (wg_W0 fun _ _ => 0) H.size))
    (ok : wg_OKs own index y bytes maxL ret n) (hrc : rm.cells = 0 ∧ rm.slots = 0) (hR : rm.frames + 1 ≤ R.frames ∧ 8 + (maxL + 11) + rm.locals ≤ R.locals) (hn : As.length = n) (hsz : ls.size = nL) (hst : st0 = As.reverse ++ rest) (hrm : (rest.map fun v => v.category).sum ≤ 8) (hdg : decode cc pc = .ok (.invokestatic index, 3)) (hcs : cells ≤ R.cells ∧ slots ≤ R.slots)
    (kk : ∀ (r : Int64) (H1 : Heap) (locs1 : List Loc), post r () → va_P D wg_cl ws H1 → va_S A H0 H1 locs1 → W p l e R s m args below meth c H1 locs1 cells slots Q (F0 m (pc + 3) ls (.long r :: rest))) : W p l e R s m args below meth c H locs cells slots Q (F0 m pc ls st0) := by
  have hF : ∀ q, va_A (wg_W0 fun _ _ => 0) H.size q → A q := by
    rintro q (⟨k', e', h'⟩ | h')
    · cases h'
    · exact hA q (Nat.le_trans hS.1 h')
  have hD0 : va_D A (wg_W0 fun _ _ => 0) := ⟨fun i j p q h => (by cases h), fun k q h => (by cases h)⟩
  have hP0 : va_P D wg_cl (wg_W0 fun _ _ => 0) H := fun k q h => by cases h
  exact va_calll (wg_runs hx hb hml hown hts hM ok ⟨wg_blind, wg_pre hK hP0 hD0⟩ hrc hR hn hsz hst hrm hdg hcs) hS (fun q _ h => hF q h) hF (fun r u t H1 locs1 ht hvm hq hB hz1 hk1 hS1 => kk r H1 locs1 hq (wg_kept hP hk1) hS1)
/-- a call on an object whose whole world is handed in, answers: int, long, none -/
theorem wg_cvi {post : Int32 → St → Prop} {Bw : St → State → Prop} {qc : vw_C} (hx : p.tables.exec = Jvm.exec) (hb : c.code = cc) (hml : c.maxLocals = nL) (hown : s.vm.findClass own = some m.cls) (hts : ∀ w ∈ wg_tbl, w.before args s = true) (hK : va_K D wg_cl (wg_ty cJ cI) s) (hP : va_P D wg_cl ws H) (hD : va_D A ws) (hS : va_S A H0 H locs) (hA : ∀ q, H0.size ≤ q → A q) (hc : wg_cl[ci]? = some qc) (hqy : qc.1 = y.cls) (he : ws[0]? = some (a, .inr (ci, fs)))
    (hM : Met l y (wg_ws y bytes maxL ret) rm (va_Pc (.ref a :: As) (wg_Pc D cJ cI ws H.size)) (va_Qi post Bw (va_A ws H.size)) 0 0 (va_A ws H.size))
    (ok : wg_OKv own index y bytes maxL ret n) (hrc : rm.cells = 0 ∧ rm.slots = 0) (hR : rm.frames + 1 ≤ R.frames ∧ 8 + (maxL + 11) + rm.locals ≤ R.locals) (hn : As.length = n) (hsz : ls.size = nL) (hst : st0 = As.reverse ++ .ref a :: rest) (hrm : (rest.map fun v => v.category).sum ≤ 8) (hdg : decode cc pc = .ok (.invokevirtual index, 3)) (hcs : cells ≤ R.cells ∧ slots ≤ R.slots)
    (kk : ∀ (r : Int32) (u : St) (t : State) (H1 : Heap) (locs1 : List Loc), t.heap = H1 → post r u → Bw u t → H.size ≤ H1.size → (∀ q : Nat, q < H.size → ¬ va_A ws H.size q → H1[q]? = H[q]?) → va_S A H0 H1 locs1 → W p l e R s m args below meth c H1 locs1 cells slots Q (F0 m (pc + 3) ls (.int r :: rest))) : W p l e R s m args below meth c H locs cells slots Q (F0 m pc ls st0) :=
  va_calli (wg_runv hx hb hml hown hts hM ok ⟨wg_blind, hqy ▸ va_recv hK hP hc he, wg_pre hK hP hD⟩ hrc hR hn hsz hst hrm hdg hcs) hS (fun q _ h => wg_free hD hS hA q h) (wg_free hD hS hA) (fun r u t H1 locs1 ht hvm hq hB hz1 hk1 hS1 => kk r u t H1 locs1 ht hq hB hz1 hk1 hS1)
theorem wg_cvl {post : Int64 → St → Prop} {Bw : St → State → Prop} {qc : vw_C} (hx : p.tables.exec = Jvm.exec) (hb : c.code = cc) (hml : c.maxLocals = nL) (hown : s.vm.findClass own = some m.cls) (hts : ∀ w ∈ wg_tbl, w.before args s = true) (hK : va_K D wg_cl (wg_ty cJ cI) s) (hP : va_P D wg_cl ws H) (hD : va_D A ws) (hS : va_S A H0 H locs) (hA : ∀ q, H0.size ≤ q → A q) (hc : wg_cl[ci]? = some qc) (hqy : qc.1 = y.cls) (he : ws[0]? = some (a, .inr (ci, fs)))
    (hM : Met l y (wg_ws y bytes maxL ret) rm (va_Pc (.ref a :: As) (wg_Pc D cJ cI ws H.size)) (va_Ql post Bw (va_A ws H.size)) 0 0 (va_A ws H.size))
    (ok : wg_OKv own index y bytes maxL ret n) (hrc : rm.cells = 0 ∧ rm.slots = 0) (hR : rm.frames + 1 ≤ R.frames ∧ 8 + (maxL + 11) + rm.locals ≤ R.locals) (hn : As.length = n) (hsz : ls.size = nL) (hst : st0 = As.reverse ++ .ref a :: rest) (hrm : (rest.map fun v => v.category).sum ≤ 8) (hdg : decode cc pc = .ok (.invokevirtual index, 3)) (hcs : cells ≤ R.cells ∧ slots ≤ R.slots)
    (kk : ∀ (r : Int64) (u : St) (t : State) (H1 : Heap) (locs1 : List Loc), t.heap = H1 → post r u → Bw u t → H.size ≤ H1.size → (∀ q : Nat, q < H.size → ¬ va_A ws H.size q → H1[q]? = H[q]?) → va_S A H0 H1 locs1 → W p l e R s m args below meth c H1 locs1 cells slots Q (F0 m (pc + 3) ls (.long r :: rest))) : W p l e R s m args below meth c H locs cells slots Q (F0 m pc ls st0) :=
  va_calll (wg_runv hx hb hml hown hts hM ok ⟨wg_blind, hqy ▸ va_recv hK hP hc he, wg_pre hK hP hD⟩ hrc hR hn hsz hst hrm hdg hcs) hS (fun q _ h => wg_free hD hS hA q h) (wg_free hD hS hA) (fun r u t H1 locs1 ht hvm hq hB hz1 hk1 hS1 => kk r u t H1 locs1 ht hq hB hz1 hk1 hS1)
theorem wg_cvv {post : St → Prop} {Bw : St → State → Prop} {qc : vw_C} (hx : p.tables.exec = Jvm.exec) (hb : c.code = cc) (hml : c.maxLocals = nL) (hown : s.vm.findClass own = some m.cls) (hts : ∀ w ∈ wg_tbl, w.before args s = true) (hK : va_K D wg_cl (wg_ty cJ cI) s) (hP : va_P D wg_cl ws H) (hD : va_D A ws) (hS : va_S A H0 H locs) (hA : ∀ q, H0.size ≤ q → A q) (hc : wg_cl[ci]? = some qc) (hqy : qc.1 = y.cls) (he : ws[0]? = some (a, .inr (ci, fs)))
    (hM : Met l y (wg_ws y bytes maxL ret) rm (va_Pc (.ref a :: As) (wg_Pc D cJ cI ws H.size)) (va_Qv post Bw (va_A ws H.size)) 0 0 (va_A ws H.size))
    (ok : wg_OKv own index y bytes maxL ret n) (hrc : rm.cells = 0 ∧ rm.slots = 0) (hR : rm.frames + 1 ≤ R.frames ∧ 8 + (maxL + 11) + rm.locals ≤ R.locals) (hn : As.length = n) (hsz : ls.size = nL) (hst : st0 = As.reverse ++ .ref a :: rest) (hrm : (rest.map fun v => v.category).sum ≤ 8) (hdg : decode cc pc = .ok (.invokevirtual index, 3)) (hcs : cells ≤ R.cells ∧ slots ≤ R.slots)
    (kk : ∀ (u : St) (t : State) (H1 : Heap) (locs1 : List Loc), t.heap = H1 → post u → Bw u t → H.size ≤ H1.size → (∀ q : Nat, q < H.size → ¬ va_A ws H.size q → H1[q]? = H[q]?) → va_S A H0 H1 locs1 → W p l e R s m args below meth c H1 locs1 cells slots Q (F0 m (pc + 3) ls rest)) : W p l e R s m args below meth c H locs cells slots Q (F0 m pc ls st0) :=
  va_callv (wg_runv hx hb hml hown hts hM ok ⟨wg_blind, hqy ▸ va_recv hK hP hc he, wg_pre hK hP hD⟩ hrc hR hn hsz hst hrm hdg hcs) hS (fun q _ h => wg_free hD hS hA q h) (wg_free hD hS hA) (fun u t H1 locs1 ht hvm hq hB hz1 hk1 hS1 => kk u t H1 locs1 ht hq hB hz1 hk1 hS1)
end CALLS
theorem wg_newi (hx : p.tables.exec = Jvm.exec) (hb : c.code = cc) (hts : ∀ w ∈ wg_tbl, w.before args s = true) (harr : Cond.arrayClass .int ∈ wg_tbl) (hK : va_K D wg_cl (wg_ty cJ cI) s) (hP : va_P D wg_cl ws H) (hD : va_D A ws) (hS : va_S A H0 H locs) (hA : ∀ q, H0.size ≤ q → A q) {N : Nat} (hN : N < 2 ^ 20) (hcells : cells + 1 ≤ R.cells) (hslots : slots + N ≤ R.slots) (hdg : decode cc pc = .ok (.newarray .int, 2))
    (kk : ∀ (q : Nat) (H1 : Heap), va_P D wg_cl (ws ++ [(q, wg_ai cI N (fun _ => 0))]) H1 → va_D A (ws ++ [(q, wg_ai cI N (fun _ => 0))]) → va_S A H0 H1 locs → W p l e R s m args below meth c H1 locs (cells + 1) (slots + N) Q (F0 m (pc + 2) ls (.ref q :: rest))) : W p l e R s m args below meth c H locs cells slots Q (F0 m pc ls (.int (nI N) :: rest)) := by
  refine va_newa (atype := .int) (a0 := (N, .inl (fun _ => nI 0))) hx hb (hts _ harr) rfl hK hP hD hS hA (fun cA => ?_) (nI_pos (by omega)) (nI_clamp (by omega)) (by show N * 4 ≤ _; omega) hcells hslots hdg (fun q cA H1 hK1 hP1 hD1 hS1 => ?_)
  · rw [vp_cell_i, nI_0]; rfl
  · have e : cA = cI := by
      have h1 : s.vm.findClass ("[" ++ FieldType.int.toString) = some cA := (hK1.2 2 (cA, .int) rfl).2
      have h2 : s.vm.findClass ("[" ++ FieldType.int.toString) = some cI := (hK.2 1 (cI, .int) rfl).2
      exact Option.some.inj (h1.symm.trans h2)
    subst e
    exact kk q H1 hP1 hD1 hS1
theorem wg_newj (hx : p.tables.exec = Jvm.exec) (hb : c.code = cc) (hts : ∀ w ∈ wg_tbl, w.before args s = true) (harr : Cond.arrayClass .long ∈ wg_tbl) (hK : va_K D wg_cl (wg_ty cJ cI) s) (hP : va_P D wg_cl ws H) (hD : va_D A ws) (hS : va_S A H0 H locs) (hA : ∀ q, H0.size ≤ q → A q) {N : Nat} (hN : N < 2 ^ 20) (hcells : cells + 1 ≤ R.cells) (hslots : slots + N ≤ R.slots) (hdg : decode cc pc = .ok (.newarray .long, 2))
    (kk : ∀ (q : Nat) (H1 : Heap), va_P D wg_cl (ws ++ [(q, wg_aj cJ N (fun _ => 0))]) H1 → va_D A (ws ++ [(q, wg_aj cJ N (fun _ => 0))]) → va_S A H0 H1 locs → W p l e R s m args below meth c H1 locs (cells + 1) (slots + N) Q (F0 m (pc + 2) ls (.ref q :: rest))) : W p l e R s m args below meth c H locs cells slots Q (F0 m pc ls (.int (nI N) :: rest)) := by
  refine va_newa (atype := .long) (a0 := (N, .inr (.inl (fun _ => lN 0)))) hx hb (hts _ harr) rfl hK hP hD hS hA (fun cA => ?_) (nI_pos (by omega)) (nI_clamp (by omega)) (by show N * 8 ≤ _; omega) hcells hslots hdg (fun q cA H1 hK1 hP1 hD1 hS1 => ?_)
  · rw [vp_cell_l]; rfl
  · have e : cA = cJ := by
      have h1 : s.vm.findClass ("[" ++ FieldType.long.toString) = some cA := (hK1.2 2 (cA, .long) rfl).2
      have h2 : s.vm.findClass ("[" ++ FieldType.long.toString) = some cJ := (hK.2 0 (cJ, .long) rfl).2
      exact Option.some.inj (h1.symm.trans h2)
    subst e
    exact kk q H1 hP1 hD1 hS1
end WG
def wg_Z : wg_S := fun _ _ => 0
def wg_BX : List Value := [.null, .null, .null, .int (nI 0), .int (nI 0), .null, .null, .null, .int (nI 0), .null, .null, .int (nI 0), .null, .null]
def wg_BM : List Value := [.null, .int (nI 0), .int (nI 0), .int (nI 0), .null, .null, .null, .null, .null, .int (nI 0), .null]
def wg_cX : wg_S := wg_st (wg_st (wg_st (wg_st wg_Z 3 0 0) 4 0 0) 8 0 0) 11 0 0
def wg_cM : wg_S := wg_st wg_Z 1 0 0
theorem kc_X_41 : wg_OKv R_X 41 y_X_clear b_X_clear 1 none 0 := ⟨⟨kd_X_clear, List.mem_filter.mpr ⟨List.mem_append_right _ (List.mem_of_getElem? (i := 12) (by decide +kernel)), rfl⟩, kz_X, by decide +kernel⟩, List.mem_filter.mpr ⟨List.mem_append_right _ (List.mem_of_getElem? (i := 13) (by decide +kernel)), rfl⟩, List.mem_filter.mpr ⟨List.mem_append_right _ (List.mem_of_getElem? (i := 14) (by decide +kernel)), rfl⟩⟩
theorem kc_X_48 : wg_OKs R_X 48 y_X_isWord b_X_isWord 4 (some .boolean) 1 := ⟨⟨kd_X_isWord, List.mem_filter.mpr ⟨List.mem_append_right _ (List.mem_of_getElem? (i := 65) (by decide +kernel)), rfl⟩, kz_X, by decide +kernel⟩, List.mem_filter.mpr ⟨List.mem_append_right _ (List.mem_of_getElem? (i := 66) (by decide +kernel)), rfl⟩⟩
theorem kc_X_56 : wg_OKs R_X 56 y_X_lengthOf b_X_lengthOf 3 (some .int) 1 := ⟨⟨kd_X_lengthOf, List.mem_filter.mpr ⟨List.mem_append_right _ (List.mem_of_getElem? (i := 69) (by decide +kernel)), rfl⟩, kz_X, by decide +kernel⟩, List.mem_filter.mpr ⟨List.mem_append_right _ (List.mem_of_getElem? (i := 70) (by decide +kernel)), rfl⟩⟩
theorem kc_X_60 : wg_OKs R_X 60 y_X_sharedLetters b_X_sharedLetters 5 (some .int) 2 := ⟨⟨kd_X_sharedLetters, List.mem_filter.mpr ⟨List.mem_append_right _ (List.mem_of_getElem? (i := 78) (by decide +kernel)), rfl⟩, kz_X, by decide +kernel⟩, List.mem_filter.mpr ⟨List.mem_append_right _ (List.mem_of_getElem? (i := 79) (by decide +kernel)), rfl⟩⟩
theorem kc_X_64 : wg_OKv R_X 64 y_X_makeNode b_X_makeNode 3 (some .int) 2 := ⟨⟨kd_X_makeNode, List.mem_filter.mpr ⟨List.mem_append_right _ (List.mem_of_getElem? (i := 85) (by decide +kernel)), rfl⟩, kz_X, by decide +kernel⟩, List.mem_filter.mpr ⟨List.mem_append_right _ (List.mem_of_getElem? (i := 87) (by decide +kernel)), rfl⟩, List.mem_filter.mpr ⟨List.mem_append_left _ (List.mem_of_getElem? (i := 0) (by decide +kernel)), rfl⟩⟩
theorem kc_X_68 : wg_OKv R_X 68 y_X_numberBeginnings b_X_numberBeginnings 4 none 1 := ⟨⟨kd_X_numberBeginnings, List.mem_filter.mpr ⟨List.mem_append_right _ (List.mem_of_getElem? (i := 89) (by decide +kernel)), rfl⟩, kz_X, by decide +kernel⟩, List.mem_filter.mpr ⟨List.mem_append_right _ (List.mem_of_getElem? (i := 91) (by decide +kernel)), rfl⟩, List.mem_filter.mpr ⟨List.mem_append_left _ (List.mem_of_getElem? (i := 1) (by decide +kernel)), rfl⟩⟩
theorem kc_X_78 : wg_OKv R_X 78 y_X_hasWord b_X_hasWord 2 (some .boolean) 1 := ⟨⟨kd_X_hasWord, List.mem_filter.mpr ⟨List.mem_append_right _ (List.mem_of_getElem? (i := 114) (by decide +kernel)), rfl⟩, kz_X, by decide +kernel⟩, List.mem_filter.mpr ⟨List.mem_append_right _ (List.mem_of_getElem? (i := 116) (by decide +kernel)), rfl⟩, List.mem_filter.mpr ⟨List.mem_append_left _ (List.mem_of_getElem? (i := 5) (by decide +kernel)), rfl⟩⟩
theorem kc_X_84 : wg_OKv R_X 84 y_X_hasNode b_X_hasNode 2 (some .boolean) 1 := ⟨⟨kd_X_hasNode, List.mem_filter.mpr ⟨List.mem_append_right _ (List.mem_of_getElem? (i := 131) (by decide +kernel)), rfl⟩, kz_X, by decide +kernel⟩, List.mem_filter.mpr ⟨List.mem_append_right _ (List.mem_of_getElem? (i := 133) (by decide +kernel)), rfl⟩, List.mem_filter.mpr ⟨List.mem_append_left _ (List.mem_of_getElem? (i := 6) (by decide +kernel)), rfl⟩⟩
theorem kc_X_87 : wg_OKv R_X 87 y_X_beginsAs b_X_beginsAs 4 (some .boolean) 3 := ⟨⟨kd_X_beginsAs, List.mem_filter.mpr ⟨List.mem_append_right _ (List.mem_of_getElem? (i := 101) (by decide +kernel)), rfl⟩, kz_X, by decide +kernel⟩, List.mem_filter.mpr ⟨List.mem_append_right _ (List.mem_of_getElem? (i := 103) (by decide +kernel)), rfl⟩, List.mem_filter.mpr ⟨List.mem_append_left _ (List.mem_of_getElem? (i := 4) (by decide +kernel)), rfl⟩⟩
theorem kc_X_91 : wg_OKs R_X 91 y_X_letterAt b_X_letterAt 3 (some .int) 2 := ⟨⟨kd_X_letterAt, List.mem_filter.mpr ⟨List.mem_append_right _ (List.mem_of_getElem? (i := 72) (by decide +kernel)), rfl⟩, kz_X, by decide +kernel⟩, List.mem_filter.mpr ⟨List.mem_append_right _ (List.mem_of_getElem? (i := 73) (by decide +kernel)), rfl⟩⟩
theorem kc_X_95 : wg_OKv R_X 95 y_X_fillFirstRow b_X_fillFirstRow 3 none 1 := ⟨⟨kd_X_fillFirstRow, List.mem_filter.mpr ⟨List.mem_append_right _ (List.mem_of_getElem? (i := 147) (by decide +kernel)), rfl⟩, kz_X, by decide +kernel⟩, List.mem_filter.mpr ⟨List.mem_append_right _ (List.mem_of_getElem? (i := 149) (by decide +kernel)), rfl⟩, List.mem_filter.mpr ⟨List.mem_append_left _ (List.mem_of_getElem? (i := 7) (by decide +kernel)), rfl⟩⟩
theorem kc_X_98 : wg_OKv R_X 98 y_X_farOfWord b_X_farOfWord 7 (some .int) 4 := ⟨⟨kd_X_farOfWord, List.mem_filter.mpr ⟨List.mem_append_right _ (List.mem_of_getElem? (i := 151) (by decide +kernel)), rfl⟩, kz_X, by decide +kernel⟩, List.mem_filter.mpr ⟨List.mem_append_right _ (List.mem_of_getElem? (i := 153) (by decide +kernel)), rfl⟩, List.mem_filter.mpr ⟨List.mem_append_left _ (List.mem_of_getElem? (i := 8) (by decide +kernel)), rfl⟩⟩
theorem kc_X_102 : wg_OKv R_X 102 y_X_measureAll b_X_measureAll 5 none 1 := ⟨⟨kd_X_measureAll, List.mem_filter.mpr ⟨List.mem_append_right _ (List.mem_of_getElem? (i := 166) (by decide +kernel)), rfl⟩, kz_X, by decide +kernel⟩, List.mem_filter.mpr ⟨List.mem_append_right _ (List.mem_of_getElem? (i := 168) (by decide +kernel)), rfl⟩, List.mem_filter.mpr ⟨List.mem_append_left _ (List.mem_of_getElem? (i := 10) (by decide +kernel)), rfl⟩⟩
theorem kc_X_106 : wg_OKv R_X 106 y_X_takeResults b_X_takeResults 3 none 1 := ⟨⟨kd_X_takeResults, List.mem_filter.mpr ⟨List.mem_append_right _ (List.mem_of_getElem? (i := 173) (by decide +kernel)), rfl⟩, kz_X, by decide +kernel⟩, List.mem_filter.mpr ⟨List.mem_append_right _ (List.mem_of_getElem? (i := 175) (by decide +kernel)), rfl⟩, List.mem_filter.mpr ⟨List.mem_append_left _ (List.mem_of_getElem? (i := 11) (by decide +kernel)), rfl⟩⟩
theorem kc_X_109 : wg_OKv R_X 109 y_X_hasResult b_X_hasResult 2 (some .boolean) 1 := ⟨⟨kd_X_hasResult, List.mem_filter.mpr ⟨List.mem_append_right _ (List.mem_of_getElem? (i := 181) (by decide +kernel)), rfl⟩, kz_X, by decide +kernel⟩, List.mem_filter.mpr ⟨List.mem_append_right _ (List.mem_of_getElem? (i := 183) (by decide +kernel)), rfl⟩, List.mem_filter.mpr ⟨List.mem_append_left _ (List.mem_of_getElem? (i := 12) (by decide +kernel)), rfl⟩⟩
theorem kc_X_114 : wg_OKs R_X 114 y_X_restOf b_X_restOf 3 (some .long) 2 := ⟨⟨kd_X_restOf, List.mem_filter.mpr ⟨List.mem_append_right _ (List.mem_of_getElem? (i := 75) (by decide +kernel)), rfl⟩, kz_X, by decide +kernel⟩, List.mem_filter.mpr ⟨List.mem_append_right _ (List.mem_of_getElem? (i := 76) (by decide +kernel)), rfl⟩⟩
theorem kc_X_118 : wg_OKv R_X 118 y_X_earlierNode b_X_earlierNode 6 (some .int) 2 := ⟨⟨kd_X_earlierNode, List.mem_filter.mpr ⟨List.mem_append_right _ (List.mem_of_getElem? (i := 93) (by decide +kernel)), rfl⟩, kz_X, by decide +kernel⟩, List.mem_filter.mpr ⟨List.mem_append_right _ (List.mem_of_getElem? (i := 95) (by decide +kernel)), rfl⟩, List.mem_filter.mpr ⟨List.mem_append_left _ (List.mem_of_getElem? (i := 2) (by decide +kernel)), rfl⟩⟩
theorem kc_X_121 : wg_OKv R_X 121 y_X_sameEndings b_X_sameEndings 8 (some .boolean) 4 := ⟨⟨kd_X_sameEndings, List.mem_filter.mpr ⟨List.mem_append_right _ (List.mem_of_getElem? (i := 97) (by decide +kernel)), rfl⟩, kz_X, by decide +kernel⟩, List.mem_filter.mpr ⟨List.mem_append_right _ (List.mem_of_getElem? (i := 99) (by decide +kernel)), rfl⟩, List.mem_filter.mpr ⟨List.mem_append_left _ (List.mem_of_getElem? (i := 3) (by decide +kernel)), rfl⟩⟩
theorem kc_X_130 : wg_OKv R_X 130 y_X_fillRow b_X_fillRow 11 none 4 := ⟨⟨kd_X_fillRow, List.mem_filter.mpr ⟨List.mem_append_right _ (List.mem_of_getElem? (i := 155) (by decide +kernel)), rfl⟩, kz_X, by decide +kernel⟩, List.mem_filter.mpr ⟨List.mem_append_right _ (List.mem_of_getElem? (i := 157) (by decide +kernel)), rfl⟩, List.mem_filter.mpr ⟨List.mem_append_left _ (List.mem_of_getElem? (i := 9) (by decide +kernel)), rfl⟩⟩
theorem kc_M_36 : wg_OKs R_M 36 y_M_letter b_M_letter 3 (some .int) 2 := ⟨⟨kd_M_letter, List.mem_filter.mpr ⟨List.mem_append_right _ (List.mem_of_getElem? (i := 236) (by decide +kernel)), rfl⟩, kz_M, by decide +kernel⟩, List.mem_filter.mpr ⟨List.mem_append_right _ (List.mem_of_getElem? (i := 237) (by decide +kernel)), rfl⟩⟩
theorem kc_M_44 : wg_OKs R_M 44 y_M_isWord b_M_isWord 3 (some .boolean) 1 := ⟨⟨kd_M_isWord, List.mem_filter.mpr ⟨List.mem_append_right _ (List.mem_of_getElem? (i := 233) (by decide +kernel)), rfl⟩, kz_M, by decide +kernel⟩, List.mem_filter.mpr ⟨List.mem_append_right _ (List.mem_of_getElem? (i := 234) (by decide +kernel)), rfl⟩⟩
theorem kc_M_48 : wg_OKv R_M 48 y_M_share b_M_share 5 (some .boolean) 3 := ⟨⟨kd_M_share, List.mem_filter.mpr ⟨List.mem_append_right _ (List.mem_of_getElem? (i := 254) (by decide +kernel)), rfl⟩, kz_M, by decide +kernel⟩, List.mem_filter.mpr ⟨List.mem_append_right _ (List.mem_of_getElem? (i := 256) (by decide +kernel)), rfl⟩, List.mem_filter.mpr ⟨List.mem_append_left _ (List.mem_of_getElem? (i := 15) (by decide +kernel)), rfl⟩⟩
theorem kc_M_52 : wg_OKs R_M 52 y_M_length b_M_length 4 (some .int) 1 := ⟨⟨kd_M_length, List.mem_filter.mpr ⟨List.mem_append_right _ (List.mem_of_getElem? (i := 243) (by decide +kernel)), rfl⟩, kz_M, by decide +kernel⟩, List.mem_filter.mpr ⟨List.mem_append_right _ (List.mem_of_getElem? (i := 244) (by decide +kernel)), rfl⟩⟩
theorem kc_M_56 : wg_OKv R_M 56 y_M_also b_M_also 8 (some .boolean) 4 := ⟨⟨kd_M_also, List.mem_filter.mpr ⟨List.mem_append_right _ (List.mem_of_getElem? (i := 258) (by decide +kernel)), rfl⟩, kz_M, by decide +kernel⟩, List.mem_filter.mpr ⟨List.mem_append_right _ (List.mem_of_getElem? (i := 260) (by decide +kernel)), rfl⟩, List.mem_filter.mpr ⟨List.mem_append_left _ (List.mem_of_getElem? (i := 16) (by decide +kernel)), rfl⟩⟩
theorem kc_M_63 : wg_OKv R_M 63 y_M_within b_M_within 6 (some .boolean) 4 := ⟨⟨kd_M_within, List.mem_filter.mpr ⟨List.mem_append_right _ (List.mem_of_getElem? (i := 250) (by decide +kernel)), rfl⟩, kz_M, by decide +kernel⟩, List.mem_filter.mpr ⟨List.mem_append_right _ (List.mem_of_getElem? (i := 252) (by decide +kernel)), rfl⟩, List.mem_filter.mpr ⟨List.mem_append_left _ (List.mem_of_getElem? (i := 14) (by decide +kernel)), rfl⟩⟩
theorem kc_M_66 : wg_OKv R_M 66 y_M_nodeOf b_M_nodeOf 4 (some .int) 2 := ⟨⟨kd_M_nodeOf, List.mem_filter.mpr ⟨List.mem_append_right _ (List.mem_of_getElem? (i := 246) (by decide +kernel)), rfl⟩, kz_M, by decide +kernel⟩, List.mem_filter.mpr ⟨List.mem_append_right _ (List.mem_of_getElem? (i := 248) (by decide +kernel)), rfl⟩, List.mem_filter.mpr ⟨List.mem_append_left _ (List.mem_of_getElem? (i := 13) (by decide +kernel)), rfl⟩⟩
theorem kc_M_75 : wg_OKv R_M 75 y_M_isNode b_M_isNode 2 (some .boolean) 1 := ⟨⟨kd_M_isNode, List.mem_filter.mpr ⟨List.mem_append_right _ (List.mem_of_getElem? (i := 287) (by decide +kernel)), rfl⟩, kz_M, by decide +kernel⟩, List.mem_filter.mpr ⟨List.mem_append_right _ (List.mem_of_getElem? (i := 289) (by decide +kernel)), rfl⟩, List.mem_filter.mpr ⟨List.mem_append_left _ (List.mem_of_getElem? (i := 17) (by decide +kernel)), rfl⟩⟩
theorem kc_M_79 : wg_OKv R_M 79 y_M_between b_M_between 10 (some .int) 2 := ⟨⟨kd_M_between, List.mem_filter.mpr ⟨List.mem_append_right _ (List.mem_of_getElem? (i := 303) (by decide +kernel)), rfl⟩, kz_M, by decide +kernel⟩, List.mem_filter.mpr ⟨List.mem_append_right _ (List.mem_of_getElem? (i := 305) (by decide +kernel)), rfl⟩, List.mem_filter.mpr ⟨List.mem_append_left _ (List.mem_of_getElem? (i := 18) (by decide +kernel)), rfl⟩⟩
theorem kc_L_15 : wg_OKv R_law 15 y_X_add b_X_add 3 (some .int) 1 := ⟨⟨kd_X_add, List.mem_filter.mpr ⟨List.mem_append_right _ (List.mem_of_getElem? (i := 61) (by decide +kernel)), rfl⟩, kz_X, by decide +kernel⟩, List.mem_filter.mpr ⟨List.mem_append_right _ (List.mem_of_getElem? (i := 62) (by decide +kernel)), rfl⟩, List.mem_filter.mpr ⟨List.mem_append_right _ (List.mem_of_getElem? (i := 63) (by decide +kernel)), rfl⟩⟩
theorem kc_L_19 : wg_OKv R_law 19 y_M_add b_M_add 3 (some .int) 1 := ⟨⟨kd_M_add, List.mem_filter.mpr ⟨List.mem_append_right _ (List.mem_of_getElem? (i := 229) (by decide +kernel)), rfl⟩, kz_M, by decide +kernel⟩, List.mem_filter.mpr ⟨List.mem_append_right _ (List.mem_of_getElem? (i := 230) (by decide +kernel)), rfl⟩, List.mem_filter.mpr ⟨List.mem_append_right _ (List.mem_of_getElem? (i := 231) (by decide +kernel)), rfl⟩⟩
theorem kc_L_20 : wg_OKv R_law 20 y_X_seal b_X_seal 2 (some .boolean) 0 := ⟨⟨kd_X_seal, List.mem_filter.mpr ⟨List.mem_append_right _ (List.mem_of_getElem? (i := 81) (by decide +kernel)), rfl⟩, kz_X, by decide +kernel⟩, List.mem_filter.mpr ⟨List.mem_append_right _ (List.mem_of_getElem? (i := 82) (by decide +kernel)), rfl⟩, List.mem_filter.mpr ⟨List.mem_append_right _ (List.mem_of_getElem? (i := 83) (by decide +kernel)), rfl⟩⟩
theorem kc_L_24 : wg_OKv R_law 24 y_M_seal b_M_seal 3 (some .boolean) 0 := ⟨⟨kd_M_seal, List.mem_filter.mpr ⟨List.mem_append_right _ (List.mem_of_getElem? (i := 239) (by decide +kernel)), rfl⟩, kz_M, by decide +kernel⟩, List.mem_filter.mpr ⟨List.mem_append_right _ (List.mem_of_getElem? (i := 240) (by decide +kernel)), rfl⟩, List.mem_filter.mpr ⟨List.mem_append_right _ (List.mem_of_getElem? (i := 241) (by decide +kernel)), rfl⟩⟩
theorem kc_L_25 : wg_OKv R_law 25 y_X_clear b_X_clear 1 none 0 := ⟨⟨kd_X_clear, List.mem_filter.mpr ⟨List.mem_append_right _ (List.mem_of_getElem? (i := 105) (by decide +kernel)), rfl⟩, kz_X, by decide +kernel⟩, List.mem_filter.mpr ⟨List.mem_append_right _ (List.mem_of_getElem? (i := 13) (by decide +kernel)), rfl⟩, List.mem_filter.mpr ⟨List.mem_append_right _ (List.mem_of_getElem? (i := 14) (by decide +kernel)), rfl⟩⟩
theorem kc_L_28 : wg_OKv R_law 28 y_M_clear b_M_clear 1 none 0 := ⟨⟨kd_M_clear, List.mem_filter.mpr ⟨List.mem_append_right _ (List.mem_of_getElem? (i := 262) (by decide +kernel)), rfl⟩, kz_M, by decide +kernel⟩, List.mem_filter.mpr ⟨List.mem_append_right _ (List.mem_of_getElem? (i := 263) (by decide +kernel)), rfl⟩, List.mem_filter.mpr ⟨List.mem_append_right _ (List.mem_of_getElem? (i := 264) (by decide +kernel)), rfl⟩⟩
theorem kc_L_29 : wg_OKv R_law 29 y_X_size b_X_size 1 (some .int) 0 := ⟨⟨kd_X_size, List.mem_filter.mpr ⟨List.mem_append_right _ (List.mem_of_getElem? (i := 106) (by decide +kernel)), rfl⟩, kz_X, by decide +kernel⟩, List.mem_filter.mpr ⟨List.mem_append_right _ (List.mem_of_getElem? (i := 107) (by decide +kernel)), rfl⟩, List.mem_filter.mpr ⟨List.mem_append_right _ (List.mem_of_getElem? (i := 108) (by decide +kernel)), rfl⟩⟩
theorem kc_L_33 : wg_OKv R_law 33 y_M_size b_M_size 1 (some .int) 0 := ⟨⟨kd_M_size, List.mem_filter.mpr ⟨List.mem_append_right _ (List.mem_of_getElem? (i := 266) (by decide +kernel)), rfl⟩, kz_M, by decide +kernel⟩, List.mem_filter.mpr ⟨List.mem_append_right _ (List.mem_of_getElem? (i := 267) (by decide +kernel)), rfl⟩, List.mem_filter.mpr ⟨List.mem_append_right _ (List.mem_of_getElem? (i := 268) (by decide +kernel)), rfl⟩⟩
theorem kc_L_34 : wg_OKv R_law 34 y_X_word b_X_word 2 (some .long) 1 := ⟨⟨kd_X_word, List.mem_filter.mpr ⟨List.mem_append_right _ (List.mem_of_getElem? (i := 110) (by decide +kernel)), rfl⟩, kz_X, by decide +kernel⟩, List.mem_filter.mpr ⟨List.mem_append_right _ (List.mem_of_getElem? (i := 111) (by decide +kernel)), rfl⟩, List.mem_filter.mpr ⟨List.mem_append_right _ (List.mem_of_getElem? (i := 112) (by decide +kernel)), rfl⟩⟩
theorem kc_L_38 : wg_OKv R_law 38 y_M_word b_M_word 2 (some .long) 1 := ⟨⟨kd_M_word, List.mem_filter.mpr ⟨List.mem_append_right _ (List.mem_of_getElem? (i := 270) (by decide +kernel)), rfl⟩, kz_M, by decide +kernel⟩, List.mem_filter.mpr ⟨List.mem_append_right _ (List.mem_of_getElem? (i := 271) (by decide +kernel)), rfl⟩, List.mem_filter.mpr ⟨List.mem_append_right _ (List.mem_of_getElem? (i := 272) (by decide +kernel)), rfl⟩⟩
theorem kc_L_39 : wg_OKv R_law 39 y_X_find b_X_find 4 (some .int) 1 := ⟨⟨kd_X_find, List.mem_filter.mpr ⟨List.mem_append_right _ (List.mem_of_getElem? (i := 119) (by decide +kernel)), rfl⟩, kz_X, by decide +kernel⟩, List.mem_filter.mpr ⟨List.mem_append_right _ (List.mem_of_getElem? (i := 120) (by decide +kernel)), rfl⟩, List.mem_filter.mpr ⟨List.mem_append_right _ (List.mem_of_getElem? (i := 121) (by decide +kernel)), rfl⟩⟩
theorem kc_L_42 : wg_OKv R_law 42 y_M_find b_M_find 4 (some .int) 1 := ⟨⟨kd_M_find, List.mem_filter.mpr ⟨List.mem_append_right _ (List.mem_of_getElem? (i := 275) (by decide +kernel)), rfl⟩, kz_M, by decide +kernel⟩, List.mem_filter.mpr ⟨List.mem_append_right _ (List.mem_of_getElem? (i := 276) (by decide +kernel)), rfl⟩, List.mem_filter.mpr ⟨List.mem_append_right _ (List.mem_of_getElem? (i := 277) (by decide +kernel)), rfl⟩⟩
theorem kc_L_43 : wg_OKv R_law 43 y_X_nodes b_X_nodes 1 (some .int) 0 := ⟨⟨kd_X_nodes, List.mem_filter.mpr ⟨List.mem_append_right _ (List.mem_of_getElem? (i := 123) (by decide +kernel)), rfl⟩, kz_X, by decide +kernel⟩, List.mem_filter.mpr ⟨List.mem_append_right _ (List.mem_of_getElem? (i := 124) (by decide +kernel)), rfl⟩, List.mem_filter.mpr ⟨List.mem_append_right _ (List.mem_of_getElem? (i := 125) (by decide +kernel)), rfl⟩⟩
theorem kc_L_46 : wg_OKv R_law 46 y_M_nodes b_M_nodes 1 (some .int) 0 := ⟨⟨kd_M_nodes, List.mem_filter.mpr ⟨List.mem_append_right _ (List.mem_of_getElem? (i := 279) (by decide +kernel)), rfl⟩, kz_M, by decide +kernel⟩, List.mem_filter.mpr ⟨List.mem_append_right _ (List.mem_of_getElem? (i := 280) (by decide +kernel)), rfl⟩, List.mem_filter.mpr ⟨List.mem_append_right _ (List.mem_of_getElem? (i := 281) (by decide +kernel)), rfl⟩⟩
theorem kc_L_47 : wg_OKv R_law 47 y_X_step b_X_step 6 (some .int) 2 := ⟨⟨kd_X_step, List.mem_filter.mpr ⟨List.mem_append_right _ (List.mem_of_getElem? (i := 127) (by decide +kernel)), rfl⟩, kz_X, by decide +kernel⟩, List.mem_filter.mpr ⟨List.mem_append_right _ (List.mem_of_getElem? (i := 128) (by decide +kernel)), rfl⟩, List.mem_filter.mpr ⟨List.mem_append_right _ (List.mem_of_getElem? (i := 129) (by decide +kernel)), rfl⟩⟩
theorem kc_L_51 : wg_OKv R_law 51 y_M_step b_M_step 4 (some .int) 2 := ⟨⟨kd_M_step, List.mem_filter.mpr ⟨List.mem_append_right _ (List.mem_of_getElem? (i := 283) (by decide +kernel)), rfl⟩, kz_M, by decide +kernel⟩, List.mem_filter.mpr ⟨List.mem_append_right _ (List.mem_of_getElem? (i := 284) (by decide +kernel)), rfl⟩, List.mem_filter.mpr ⟨List.mem_append_right _ (List.mem_of_getElem? (i := 285) (by decide +kernel)), rfl⟩⟩
theorem kc_L_52 : wg_OKv R_law 52 y_X_ends b_X_ends 3 (some .boolean) 1 := ⟨⟨kd_X_ends, List.mem_filter.mpr ⟨List.mem_append_right _ (List.mem_of_getElem? (i := 135) (by decide +kernel)), rfl⟩, kz_X, by decide +kernel⟩, List.mem_filter.mpr ⟨List.mem_append_right _ (List.mem_of_getElem? (i := 136) (by decide +kernel)), rfl⟩, List.mem_filter.mpr ⟨List.mem_append_right _ (List.mem_of_getElem? (i := 137) (by decide +kernel)), rfl⟩⟩
theorem kc_L_56 : wg_OKv R_law 56 y_M_ends b_M_ends 3 (some .boolean) 1 := ⟨⟨kd_M_ends, List.mem_filter.mpr ⟨List.mem_append_right _ (List.mem_of_getElem? (i := 291) (by decide +kernel)), rfl⟩, kz_M, by decide +kernel⟩, List.mem_filter.mpr ⟨List.mem_append_right _ (List.mem_of_getElem? (i := 292) (by decide +kernel)), rfl⟩, List.mem_filter.mpr ⟨List.mem_append_right _ (List.mem_of_getElem? (i := 293) (by decide +kernel)), rfl⟩⟩
theorem kc_L_57 : wg_OKv R_law 57 y_X_endings b_X_endings 5 (some .int) 1 := ⟨⟨kd_X_endings, List.mem_filter.mpr ⟨List.mem_append_right _ (List.mem_of_getElem? (i := 139) (by decide +kernel)), rfl⟩, kz_X, by decide +kernel⟩, List.mem_filter.mpr ⟨List.mem_append_right _ (List.mem_of_getElem? (i := 140) (by decide +kernel)), rfl⟩, List.mem_filter.mpr ⟨List.mem_append_right _ (List.mem_of_getElem? (i := 141) (by decide +kernel)), rfl⟩⟩
theorem kc_L_61 : wg_OKv R_law 61 y_M_endings b_M_endings 4 (some .int) 1 := ⟨⟨kd_M_endings, List.mem_filter.mpr ⟨List.mem_append_right _ (List.mem_of_getElem? (i := 295) (by decide +kernel)), rfl⟩, kz_M, by decide +kernel⟩, List.mem_filter.mpr ⟨List.mem_append_right _ (List.mem_of_getElem? (i := 296) (by decide +kernel)), rfl⟩, List.mem_filter.mpr ⟨List.mem_append_right _ (List.mem_of_getElem? (i := 297) (by decide +kernel)), rfl⟩⟩
theorem kc_L_62 : wg_OKv R_law 62 y_X_distance b_X_distance 5 (some .int) 2 := ⟨⟨kd_X_distance, List.mem_filter.mpr ⟨List.mem_append_right _ (List.mem_of_getElem? (i := 143) (by decide +kernel)), rfl⟩, kz_X, by decide +kernel⟩, List.mem_filter.mpr ⟨List.mem_append_right _ (List.mem_of_getElem? (i := 144) (by decide +kernel)), rfl⟩, List.mem_filter.mpr ⟨List.mem_append_right _ (List.mem_of_getElem? (i := 145) (by decide +kernel)), rfl⟩⟩
theorem kc_L_66 : wg_OKv R_law 66 y_M_distance b_M_distance 4 (some .int) 2 := ⟨⟨kd_M_distance, List.mem_filter.mpr ⟨List.mem_append_right _ (List.mem_of_getElem? (i := 299) (by decide +kernel)), rfl⟩, kz_M, by decide +kernel⟩, List.mem_filter.mpr ⟨List.mem_append_right _ (List.mem_of_getElem? (i := 300) (by decide +kernel)), rfl⟩, List.mem_filter.mpr ⟨List.mem_append_right _ (List.mem_of_getElem? (i := 301) (by decide +kernel)), rfl⟩⟩
theorem kc_L_67 : wg_OKv R_law 67 y_X_search b_X_search 5 (some .int) 2 := ⟨⟨kd_X_search, List.mem_filter.mpr ⟨List.mem_append_right _ (List.mem_of_getElem? (i := 162) (by decide +kernel)), rfl⟩, kz_X, by decide +kernel⟩, List.mem_filter.mpr ⟨List.mem_append_right _ (List.mem_of_getElem? (i := 163) (by decide +kernel)), rfl⟩, List.mem_filter.mpr ⟨List.mem_append_right _ (List.mem_of_getElem? (i := 164) (by decide +kernel)), rfl⟩⟩
theorem kc_L_70 : wg_OKv R_law 70 y_M_search b_M_search 6 (some .int) 2 := ⟨⟨kd_M_search, List.mem_filter.mpr ⟨List.mem_append_right _ (List.mem_of_getElem? (i := 307) (by decide +kernel)), rfl⟩, kz_M, by decide +kernel⟩, List.mem_filter.mpr ⟨List.mem_append_right _ (List.mem_of_getElem? (i := 308) (by decide +kernel)), rfl⟩, List.mem_filter.mpr ⟨List.mem_append_right _ (List.mem_of_getElem? (i := 309) (by decide +kernel)), rfl⟩⟩
theorem kc_L_71 : wg_OKv R_law 71 y_X_result b_X_result 2 (some .int) 1 := ⟨⟨kd_X_result, List.mem_filter.mpr ⟨List.mem_append_right _ (List.mem_of_getElem? (i := 177) (by decide +kernel)), rfl⟩, kz_X, by decide +kernel⟩, List.mem_filter.mpr ⟨List.mem_append_right _ (List.mem_of_getElem? (i := 178) (by decide +kernel)), rfl⟩, List.mem_filter.mpr ⟨List.mem_append_right _ (List.mem_of_getElem? (i := 179) (by decide +kernel)), rfl⟩⟩
theorem kc_L_74 : wg_OKv R_law 74 y_M_result b_M_result 2 (some .int) 1 := ⟨⟨kd_M_result, List.mem_filter.mpr ⟨List.mem_append_right _ (List.mem_of_getElem? (i := 311) (by decide +kernel)), rfl⟩, kz_M, by decide +kernel⟩, List.mem_filter.mpr ⟨List.mem_append_right _ (List.mem_of_getElem? (i := 312) (by decide +kernel)), rfl⟩, List.mem_filter.mpr ⟨List.mem_append_right _ (List.mem_of_getElem? (i := 313) (by decide +kernel)), rfl⟩⟩
theorem kc_L_75 : wg_OKv R_law 75 y_X_far b_X_far 2 (some .int) 1 := ⟨⟨kd_X_far, List.mem_filter.mpr ⟨List.mem_append_right _ (List.mem_of_getElem? (i := 185) (by decide +kernel)), rfl⟩, kz_X, by decide +kernel⟩, List.mem_filter.mpr ⟨List.mem_append_right _ (List.mem_of_getElem? (i := 186) (by decide +kernel)), rfl⟩, List.mem_filter.mpr ⟨List.mem_append_right _ (List.mem_of_getElem? (i := 187) (by decide +kernel)), rfl⟩⟩
theorem kc_L_78 : wg_OKv R_law 78 y_M_far b_M_far 2 (some .int) 1 := ⟨⟨kd_M_far, List.mem_filter.mpr ⟨List.mem_append_right _ (List.mem_of_getElem? (i := 315) (by decide +kernel)), rfl⟩, kz_M, by decide +kernel⟩, List.mem_filter.mpr ⟨List.mem_append_right _ (List.mem_of_getElem? (i := 316) (by decide +kernel)), rfl⟩, List.mem_filter.mpr ⟨List.mem_append_right _ (List.mem_of_getElem? (i := 317) (by decide +kernel)), rfl⟩⟩
