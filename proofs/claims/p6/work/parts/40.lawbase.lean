/-! Rows for the law: two objects beside each other. -/
section LAWB
variable {p : Program} {l : Launch} {e : Env} {R : Room} {s : State} {m : MethodId} {args : Array Value} {below : List Frame} {meth : Method} {c : Code} {H : Heap} {locs : List Loc} {cells slots : Nat} {Q : State → Prop}
variable {cc : ByteArray} {pc : Nat} {ls : Array Slot} {rest : List Value} {D : va_G} {A : Nat → Prop} {a : Nat} {cJ cI : ClassId} {ws : va_W} {H0 : Heap}
theorem wg_loopL (Inv : Nat → wg_S → wg_S → Heap → List Loc → Array Slot → Prop) (mu : Nat → Nat)
    (step : ∀ (x : Nat) (I J : wg_S) (H : Heap) (locs : List Loc) (ls : Array Slot), Inv x I J H locs ls → (∀ (x' : Nat) (I' J' : wg_S) (H' : Heap) (locs' : List Loc) (ls' : Array Slot), Inv x' I' J' H' locs' ls' → mu x' < mu x → W p l e R s m args below meth c H' locs' cells slots Q (F0 m pc ls' rest)) → W p l e R s m args below meth c H locs cells slots Q (F0 m pc ls rest))
    (x : Nat) (I J : wg_S) (H : Heap) (locs : List Loc) (ls : Array Slot) (h : Inv x I J H locs ls) : W p l e R s m args below meth c H locs cells slots Q (F0 m pc ls rest) := by
  have key : ∀ (n x : Nat) (I J : wg_S) (H : Heap) (locs : List Loc) (ls : Array Slot), mu x < n → Inv x I J H locs ls → W p l e R s m args below meth c H locs cells slots Q (F0 m pc ls rest) := by
    intro n
    induction n with
    | zero => intro x I J H locs ls h; omega
    | succ n ih => intro x I J H locs ls h hI; exact step x I J H locs ls hI (fun x' I' J' H' locs' ls' hI' hm => ih x' I' J' H' locs' ls' (by omega) hI')
  exact key _ x I J H locs ls (Nat.lt_succ_self _) h
theorem wg_sld {b L : Nat} {xs : Nat → Int32} (hx : p.tables.exec = Jvm.exec) (hb : c.code = cc) (hX : va_X b L xs s H0) (hbl : b < H0.size) (hbA : ¬ A b) (hS : va_S A H0 H locs) {j : Nat} (hj : j < L) (hL : L < 2 ^ 31) (hdg : decode cc pc = .ok (.iaload, 1))
    (kk : W p l e R s m args below meth c H locs cells slots Q (F0 m (pc + 1) ls (.int (xs j) :: rest))) : W p l e R s m args below meth c H locs cells slots Q (F0 m pc ls (.int (nI j) :: .ref b :: rest)) := by
  refine va_sld hx hb hX hbl hbA hS (vp_in_nI hj hL) hdg ?_
  rw [nI_clamp (Nat.lt_trans hj hL)]
  exact kk
theorem wg_keep2 {w1 w2 : va_W} {H1 : Heap} (hP : va_P D wg_cl w2 H) (hdis : ∀ (i j : Nat) (p q : Nat × va_E), w1[i]? = some p → w2[j]? = some q → p.1 ≠ q.1) (hk : ∀ q : Nat, q < H.size → ¬ va_A w1 H.size q → H1[q]? = H[q]?) : va_P D wg_cl w2 H1 := hP.kept (fun k q hq => hk q.1 (hP k q hq).lt (by
  rintro (⟨i, e, h⟩ | h)
  · exact hdis i k _ q h hq rfl
  · exact absurd (hP k q hq).lt (Nat.not_lt.mpr h)))
theorem wg_dis {w1 w2 : va_W} (hD : va_D A (w1 ++ w2)) : ∀ (i j : Nat) (p q : Nat × va_E), w1[i]? = some p → w2[j]? = some q → p.1 ≠ q.1 := by
  intro i j p q h1 h2 e
  have hi : i < w1.length := (List.getElem?_eq_some_iff.mp h1).1
  have := hD.1 i (w1.length + j) p q (by rw [List.getElem?_append_left hi]; exact h1) (by rw [List.getElem?_append_right (by omega)]; rw [show w1.length + j - w1.length = j by omega]; exact h2) e
  omega
theorem wg_dis_same {w1 w2 v1 v2 : va_W} (h1 : wg_same w1 v1) (h2 : wg_same w2 v2) (h : ∀ (i j : Nat) (p q : Nat × va_E), w1[i]? = some p → w2[j]? = some q → p.1 ≠ q.1) : ∀ (i j : Nat) (p q : Nat × va_E), v1[i]? = some p → v2[j]? = some q → p.1 ≠ q.1 := by
  intro i j p q hp hq
  obtain ⟨p', a1, e1⟩ := wg_same_at h1 hp
  obtain ⟨q', a2, e2⟩ := wg_same_at h2 hq
  rw [← e1, ← e2]
  exact h i j p' q' a1 a2
theorem wg_dis_sym {w1 w2 : va_W} (h : ∀ (i j : Nat) (p q : Nat × va_E), w1[i]? = some p → w2[j]? = some q → p.1 ≠ q.1) : ∀ (i j : Nat) (p q : Nat × va_E), w2[i]? = some p → w1[j]? = some q → p.1 ≠ q.1 := fun i j p q hp hq e => h j i q p hq hp e.symm
theorem wg_D1 {w1 w2 : va_W} (hD : va_D A (w1 ++ w2)) : va_D A w1 := by
  refine ⟨fun i j p q hp hq e => ?_, fun k q hk => ?_⟩
  · have hi : i < w1.length := (List.getElem?_eq_some_iff.mp hp).1
    have hj : j < w1.length := (List.getElem?_eq_some_iff.mp hq).1
    exact hD.1 i j p q (by rw [List.getElem?_append_left hi]; exact hp) (by rw [List.getElem?_append_left hj]; exact hq) e
  · have hi : k < w1.length := (List.getElem?_eq_some_iff.mp hk).1
    exact hD.2 k q (by rw [List.getElem?_append_left hi]; exact hk)
theorem wg_D2 {w1 w2 : va_W} (hD : va_D A (w1 ++ w2)) : va_D A w2 := by
  have g : ∀ (k : Nat) (q : Nat × va_E), w2[k]? = some q → (w1 ++ w2)[w1.length + k]? = some q := fun k q hk => by
    rw [List.getElem?_append_right (by omega), show w1.length + k - w1.length = k by omega]; exact hk
  refine ⟨fun i j p q hp hq e => ?_, fun k q hk => hD.2 _ q (g k q hk)⟩
  have := hD.1 _ _ p q (g i p hp) (g j q hq) e
  omega
theorem wg_P1 {w1 w2 : va_W} (hP : va_P D wg_cl (w1 ++ w2) H) : va_P D wg_cl w1 H := fun k q hk => hP k q (by
  have hi : k < w1.length := (List.getElem?_eq_some_iff.mp hk).1
  rw [List.getElem?_append_left hi]; exact hk)
theorem wg_P2 {w1 w2 : va_W} (hP : va_P D wg_cl (w1 ++ w2) H) : va_P D wg_cl w2 H := fun k q hk => hP (w1.length + k) q (by
  rw [List.getElem?_append_right (by omega), show w1.length + k - w1.length = k by omega]; exact hk)
end LAWB
/-- the tables' numbers of the two classes and of the arrays -/
theorem wg_K0 {args : Array Value} {s : State} (hts : ∀ w ∈ wg_tbl, w.before args s = true) (hiX : Cond.instantiable R_X 14 ∈ wg_tbl) (hiM : Cond.instantiable R_M 11 ∈ wg_tbl) (hj : Cond.arrayClass .long ∈ wg_tbl) (hi : Cond.arrayClass .int ∈ wg_tbl) : ∃ (D : va_G) (cJ cI : ClassId), va_K D wg_cl (wg_ty cJ cI) s := by
  obtain ⟨cX, iX, hX⟩ := u_known (C := R_X) (T := F_X) (N := 14) hts wg_inX (hts _ hiX)
  obtain ⟨cM, iM, hM⟩ := u_known (C := R_M) (T := F_M) (N := 11) hts wg_inM (hts _ hiM)
  obtain ⟨cJ, kJ, compJ, hJ1, hJ2, hJ3⟩ := Cond.arrayClass_spec (hts _ hj)
  obtain ⟨cI, kI, compI, hI1, hI2, hI3⟩ := Cond.arrayClass_spec (hts _ hi)
  refine ⟨(fun k => if k = 0 then cX else cM, fun k => if k = 0 then iX else iM), cJ, cI, fun k q hq => ?_, fun k q hq => ?_⟩
  · rcases k with _ | _ | k
    · cases hq; exact hX
    · cases hq; exact hM
    · cases hq
  · rcases k with _ | _ | k
    · cases hq; exact ⟨fun n z => ⟨fun k h => (by cases h), kJ, hJ2, compJ, hJ3⟩, hJ1⟩
    · cases hq; exact ⟨fun n z => ⟨fun k h => (by cases h), kI, hI2, compI, hI3⟩, hI1⟩
    · cases hq
-- the two objects' states go together
def wg_rel (I J : wg_S) : Prop := I 3 0 = J 1 0 ∧ I 4 0 = J 2 0 ∧ (∀ k, k < I 3 0 → I 0 k = J 0 k) ∧ I 11 0 = J 3 0 ∧ (∀ i, i < I 11 0 → I 9 i = J 4 i ∧ I 10 i = J 5 i)
theorem wg_rel_fr {I J u v : wg_S} (h : wg_rel I J) (hu : ∀ j, j = 0 ∨ j = 3 ∨ j = 4 ∨ j = 9 ∨ j = 10 ∨ j = 11 → u j = I j) (hv : ∀ j, j < 6 → v j = J j) : wg_rel u v := by
  unfold wg_rel
  rw [hu 0 (by omega), hu 3 (by omega), hu 4 (by omega), hu 9 (by omega), hu 10 (by omega), hu 11 (by omega), hv 0 (by omega), hv 1 (by omega), hv 2 (by omega), hv 3 (by omega), hv 4 (by omega), hv 5 (by omega)]
  exact h
theorem wg_rel_add {I J u v : wg_S} {n : Nat} {r r' : Int32} (h : wg_rel I J) (hF : wg_XF I)
    (hx : wg_AddR (I 4 0) (I 3 0) (I 0) n r ∧ wg_XI u ∧ ((¬ r = 0 ∧ u = I) ∨ (r = 0 ∧ wg_XF u ∧ u 3 0 = I 3 0 + 1 ∧ u 0 (I 3 0) = n ∧ (∀ k, k < I 3 0 → u 0 k = I 0 k) ∧ (∀ j, 3 < j → u j = I j) ∧ u 0 = wg_st I 0 (I 3 0) n 0)))
    (hm : wg_AddR (J 2 0) (J 1 0) (J 0) n r' ∧ wg_MI v ∧ ((¬ r' = 0 ∧ v = J) ∨ (r' = 0 ∧ v 1 0 = J 1 0 + 1 ∧ v 0 (J 1 0) = n ∧ (∀ k, k < J 1 0 → v 0 k = J 0 k) ∧ (∀ j, 1 < j → v j = J j) ∧ v 0 = wg_st J 0 (J 1 0) n 0))) : r = r' ∧ wg_XI u ∧ wg_MI v ∧ wg_rel u v ∧ wg_XF u := by
  have h' := h
  obtain ⟨a, b, c, f, g⟩ := h
  obtain ⟨x1, x2, x4⟩ := hx
  obtain ⟨m1, m2, m4⟩ := hm
  rw [← a, ← b] at m1
  have e : r = r' := wg_AddR_one c x1 m1
  subst e
  refine ⟨rfl, x2, m2, ?_⟩
  rcases x4 with ⟨y0, rfl⟩ | ⟨y0, yF, y1, y2, y3, y4, _⟩ <;> rcases m4 with ⟨z0, rfl⟩ | ⟨z0, z1, z2, z3, z4, _⟩
  · exact ⟨h', hF⟩
  · exact absurd z0 y0
  · exact absurd y0 z0
  · refine ⟨⟨by omega, ?_, fun k hk => ?_, ?_, ?_⟩, yF⟩
    · rw [y4 4 (by omega), z4 2 (by omega)]; exact b
    · by_cases q : k = I 3 0
      · rw [q, y2, a, z2]
      · rw [y3 k (by omega), z3 k (by omega)]; exact c k (by omega)
    · rw [y4 11 (by omega), z4 3 (by omega)]; exact f
    · rw [y4 11 (by omega), y4 9 (by omega), y4 10 (by omega), z4 4 (by omega), z4 5 (by omega)]; exact g
theorem wg_rel_seal {I J u v : wg_S} {r r' : Int32} (h : wg_rel I J) (hI : wg_XI I) (hJ : wg_MI J) (hF : wg_XF I)
    (hx : (¬ I 4 0 = 0 ∧ r = nI 0 ∧ u = I) ∨ (I 4 0 = 0 ∧ r = nI 1 ∧ u 4 0 = 1 ∧ wg_XI u ∧ (∀ j, j < 4 ∨ 8 < j → u j = I j)))
    (hm : (¬ J 2 0 = 0 ∧ r' = nI 0 ∧ v = J) ∨ (J 2 0 = 0 ∧ r' = nI 1 ∧ v 2 0 = 1 ∧ wg_MI v ∧ (∀ j, ¬ j = 2 → (j < 6 ∨ j = 10) → v j = J j))) : r = r' ∧ wg_XI u ∧ wg_MI v ∧ wg_rel u v ∧ wg_XF u := by
  have h' := h
  obtain ⟨a, b, c, f, g⟩ := h
  rcases hx with ⟨x1, rfl, rfl⟩ | ⟨x1, rfl, x3, x4, x5⟩ <;> rcases hm with ⟨m1, rfl, rfl⟩ | ⟨m1, rfl, m3, m4, m5⟩
  · exact ⟨rfl, hI, hJ, h', hF⟩
  · omega
  · omega
  · refine ⟨rfl, x4, m4, ⟨?_, by omega, ?_, ?_, ?_⟩, wg_XF_fr hF (fun j hj => x5 j (by omega))⟩
    · rw [x5 3 (by omega), m5 1 (by decide) (by decide)]; exact a
    · rw [x5 3 (by omega), x5 0 (by omega), m5 0 (by decide) (by decide)]; exact c
    · rw [x5 11 (by omega), m5 3 (by decide) (by decide)]; exact f
    · rw [x5 11 (by omega), x5 9 (by omega), x5 10 (by omega), m5 4 (by decide) (by decide), m5 5 (by decide) (by decide)]; exact g
theorem wg_rel_cl (I J : wg_S) : wg_rel (wg_st (wg_st (wg_st (wg_st I 3 0 0) 4 0 0) 8 0 0) 11 0 0) (wg_st (wg_st (wg_st (wg_st J 2 0 0) 1 0 0) 3 0 0) 9 0 0) := ⟨rfl, rfl, fun k hk => (by have hk : k < 0 := hk; omega), rfl, fun k hk => (by have hk : k < 0 := hk; omega)⟩
theorem wg_XF_cl (I : wg_S) : wg_XF (wg_st (wg_st (wg_st (wg_st I 3 0 0) 4 0 0) 8 0 0) 11 0 0) := ⟨fun k hk => (by have hk : k < 0 := hk; omega), fun hk => (by have hk : (0 : Nat) < 0 := hk; omega), fun k _ hk => (by have hk : k < 0 := hk; omega)⟩
theorem wg_XF_0 : wg_XF wg_cX := wg_XF_cl wg_Z
theorem wg_rel_word {I J : wg_S} {k : Int32} {r r' : Int64} (h : wg_rel I J) (h31 : I 3 0 < 2 ^ 31)
    (hx : (∃ j, j < I 3 0 ∧ k = nI j ∧ r = lN (I 0 j)) ∨ ((∀ j, j < I 3 0 → ¬ k = nI j) ∧ r = -1)) (hm : (∃ j, j < J 1 0 ∧ k = nI j ∧ r' = lN (J 0 j)) ∨ ((∀ j, j < J 1 0 → ¬ k = nI j) ∧ r' = -1)) : r = r' := by
  obtain ⟨a, b, c, _, _⟩ := h
  rcases hx with ⟨j, h1, rfl, rfl⟩ | ⟨h1, rfl⟩ <;> rcases hm with ⟨i, m1, m2, rfl⟩ | ⟨m1, rfl⟩
  · rw [nI_eq (by omega) (by omega)] at m2
    rw [← m2, c j h1]
  · exact absurd rfl (m1 j (by omega))
  · exact absurd m2 (h1 i (by omega))
  · rfl
theorem wg_rel_res {f g : Nat → Nat} {n n' : Nat} {k : Int32} {r r' : Int32} (hn : n = n') (h31 : n < 2 ^ 31) (hfg : ∀ i, i < n → f i = g i)
    (hx : (∃ j, j < n ∧ k = nI j ∧ r = nI (f j)) ∨ ((∀ j, j < n → ¬ k = nI j) ∧ r = -1)) (hm : (∃ j, j < n' ∧ k = nI j ∧ r' = nI (g j)) ∨ ((∀ j, j < n' → ¬ k = nI j) ∧ r' = -1)) : r = r' := by
  rcases hx with ⟨j, h1, rfl, rfl⟩ | ⟨h1, rfl⟩ <;> rcases hm with ⟨i, m1, m2, rfl⟩ | ⟨m1, rfl⟩
  · rw [nI_eq (by omega) (by omega)] at m2
    rw [← m2, hfg j h1]
  · exact absurd rfl (m1 j (by omega))
  · exact absurd m2 (h1 i (by omega))
  · rfl
theorem wg_dist_eq {I J : wg_S} {n j : Nat} (h : wg_rel I J) (hF : wg_XF I) (hn : wg_ok n) (hj : j < I 3 0) : wg_bt (I 0 j) n (wg_len (I 0 j)) (wg_len n) = wg_bt n (J 0 j) (wg_ln n) (wg_ln (J 0 j)) := by
  obtain ⟨a, b, c, _, _⟩ := h
  rw [← c j hj, wg_len_ln hn, wg_len_ln (hF.1 j hj).1, wg_bt_sym]
theorem wg_rel_dist {I J u v : wg_S} {n : Nat} {k r r' : Int32} (h : wg_rel I J) (hI : wg_XI I) (hJ : wg_MI J) (hF : wg_XF I)
    (hx : (¬ (wg_ok n ∧ ∃ j, j < I 3 0 ∧ k = nI j) ∧ r = -1 ∧ u = I) ∨ (wg_ok n ∧ ∃ j, j < I 3 0 ∧ k = nI j ∧ r = nI (wg_bt (I 0 j) n (wg_len (I 0 j)) (wg_len n)) ∧ wg_XI u ∧ (∀ x, ¬ x = 12 → u x = I x)))
    (hm : (¬ (wg_ok n ∧ ∃ j, j < J 1 0 ∧ k = nI j) ∧ r' = -1 ∧ v = J) ∨ (wg_ok n ∧ ∃ j, j < J 1 0 ∧ k = nI j ∧ r' = nI (wg_bt n (J 0 j) (wg_ln n) (wg_ln (J 0 j))) ∧ wg_MI v ∧ (∀ x, ¬ x = 10 → v x = J x))) : r = r' ∧ wg_XI u ∧ wg_MI v ∧ wg_rel u v ∧ wg_XF u := by
  have h48 := hI.1
  have ha := h.1
  rcases hx with ⟨x1, rfl, rfl⟩ | ⟨x0, j, x1, rfl, rfl, x4, x5⟩ <;> rcases hm with ⟨m1, rfl, rfl⟩ | ⟨m0, i, m1, m2, rfl, m4, m5⟩
  · exact ⟨rfl, hI, hJ, h, hF⟩
  · exact absurd ⟨m0, i, by omega, m2⟩ x1
  · exact absurd ⟨x0, j, by omega, rfl⟩ m1
  · rw [nI_eq (by omega) (by omega)] at m2
    subst m2
    exact ⟨by rw [wg_dist_eq h hF x0 x1], x4, m4, wg_rel_fr h (fun j hj => x5 j (by omega)) (fun j hj => m5 j (by omega)), wg_XF_fr hF (fun j hj => x5 j (by omega))⟩
theorem wg_rel_search {I J u v : wg_S} {n : Nat} {d r r' : Int32} (h : wg_rel I J) (hI : wg_XI I) (hJ : wg_MI J) (hF : wg_XF I)
    (hx : (I 4 0 = 0 ∧ r = -1 ∧ u = I) ∨ (¬ I 4 0 = 0 ∧ ¬ (wg_ok n ∧ ∃ dn, dn ≤ 3 ∧ d = nI dn) ∧ r = -2 ∧ u = I) ∨ (¬ I 4 0 = 0 ∧ wg_ok n ∧ ∃ dn, dn ≤ 3 ∧ d = nI dn ∧ r = nI (u 11 0) ∧ u 11 0 = wg_ct (fun k => wg_bt (I 0 k) n (wg_len (I 0 k)) (wg_len n)) (dn + 1) (I 3 0) ∧ wg_RS (fun k => wg_bt (I 0 k) n (wg_len (I 0 k)) (wg_len n)) (I 3 0) (u 9) (u 10) (dn + 1) 0 ∧ wg_XI u ∧ (∀ j, j < 9 → u j = I j)))
    (hm : (J 2 0 = 0 ∧ r' = -1 ∧ v = J) ∨ (¬ J 2 0 = 0 ∧ ¬ (wg_ok n ∧ ∃ dn, dn ≤ 3 ∧ d = nI dn) ∧ r' = -2 ∧ v = J) ∨ (¬ J 2 0 = 0 ∧ wg_ok n ∧ ∃ dn, dn ≤ 3 ∧ d = nI dn ∧ r' = nI (v 3 0) ∧ v 3 0 = wg_ct (fun k => wg_bt n (J 0 k) (wg_ln n) (wg_ln (J 0 k))) (dn + 1) (J 1 0) ∧ wg_RS (fun k => wg_bt n (J 0 k) (wg_ln n) (wg_ln (J 0 k))) (J 1 0) (v 4) (v 5) (dn + 1) 0 ∧ wg_MI v ∧ (∀ j, ¬ j = 3 → ¬ j = 4 → ¬ j = 5 → ¬ j = 10 → v j = J j))) : r = r' ∧ wg_XI u ∧ wg_MI v ∧ wg_rel u v ∧ wg_XF u := by
  have h' := h
  obtain ⟨a, b, c, f, g⟩ := h
  rcases hx with ⟨x1, rfl, rfl⟩ | ⟨x1, x2, rfl, rfl⟩ | ⟨x1, x2, dn, x3, rfl, rfl, x5, x6, x7, x8⟩ <;> rcases hm with ⟨m1, rfl, rfl⟩ | ⟨m1, m2, rfl, rfl⟩ | ⟨m1, m2, en, m3, m4, rfl, m5, m6, m7, m8⟩
  · exact ⟨rfl, hI, hJ, h', hF⟩
  · omega
  · omega
  · omega
  · exact ⟨rfl, hI, hJ, h', hF⟩
  · exact absurd ⟨m2, en, m3, m4⟩ x2
  · omega
  · exact absurd ⟨x2, dn, x3, rfl⟩ m2
  · rw [nI_eq (by omega) (by omega)] at m4
    subst m4
    have hd : ∀ k, k < I 3 0 → (fun k => wg_bt (I 0 k) n (wg_len (I 0 k)) (wg_len n)) k = (fun k => wg_bt n (J 0 k) (wg_ln n) (wg_ln (J 0 k))) k := fun k hk => wg_dist_eq h' hF x2 hk
    rw [← a] at m5 m6
    have hct : u 11 0 = v 3 0 := by rw [x5, m5]; exact wg_ct_ext _ hd
    refine ⟨by rw [hct], x7, m7, ⟨?_, ?_, ?_, hct, ?_⟩, wg_XF_fr hF (fun j hj => x8 j (by omega))⟩
    · rw [x8 3 (by omega), m8 1 (by decide) (by decide) (by decide) (by decide)]; exact a
    · rw [x8 4 (by omega), m8 2 (by decide) (by decide) (by decide) (by decide)]; exact b
    · rw [x8 3 (by omega), x8 0 (by omega), m8 0 (by decide) (by decide) (by decide) (by decide)]; exact c
    · rw [x5]
      exact wg_RS_same hd x6 m6
theorem wg_XI_0 : wg_XI wg_cX := by
  refine ⟨?_, ?_, ?_, ?_, fun _ => rfl, ?_, ?_, ?_, ?_, ?_, ?_, ?_, ?_, ?_⟩
  · show (0 : Nat) ≤ 48; omega
  · show (0 : Nat) ≤ 1; omega
  · show (0 : Nat) ≤ 577; omega
  · show (0 : Nat) ≤ 48; omega
  · intro k _; show (0 : Nat) < 2 ^ 60; omega
  · intro k _; show (0 : Nat) ≤ 12; omega
  · intro k _; show (0 : Nat) ≤ 13; omega
  · intro k _ q; have q : k < 0 := q; omega
  · intro k _; show (0 : Nat) < 48; omega
  · intro k _; show (0 : Nat) ≤ 12; omega
  · intro k _; show (0 : Nat) ≤ 24; omega
  · intro k _; show (0 : Nat) ≤ 24; omega
  · intro k _; show (0 : Nat) < 577; omega
theorem wg_MI_0 : wg_MI wg_cM := by
  refine ⟨?_, ?_, ?_, ?_, ?_, ?_, ?_⟩
  · show (0 : Nat) ≤ 48; omega
  · show (0 : Nat) ≤ 1; omega
  · show (0 : Nat) ≤ 48; omega
  · show (0 : Nat) ≤ 625; omega
  · intro k _; show (0 : Nat) < 2 ^ 60; omega
  · intro k _; show (0 : Nat) < 48; omega
  · intro k _; show (0 : Nat) ≤ 12; omega
theorem wg_rel_0 : wg_rel wg_cX wg_cM := ⟨rfl, rfl, fun k hk => (by have hk : k < 0 := hk; omega), rfl, fun k hk => (by have hk : k < 0 := hk; omega)⟩
theorem wg_dis3 {D : va_G} {H : Heap} {w1 wc w2 : va_W} (hP1 : va_P D wg_cl w1 H) (hdis : ∀ (i j : Nat) (p q : Nat × va_E), w1[i]? = some p → wc[j]? = some q → p.1 ≠ q.1) (hD2 : va_D (va_A wc H.size) w2) : ∀ (i j : Nat) (p q : Nat × va_E), w1[i]? = some p → w2[j]? = some q → p.1 ≠ q.1 := by
  intro i j p q hp hq e
  rcases hD2.2 j q hq with ⟨k, e', h⟩ | h
  · exact hdis i k p _ hp h e
  · have := (hP1 i p hp).lt
    omega
theorem wg_iinc4 (i : Nat) : nI i + Int32.ofInt 4 = nI (i + 4) := by rw [show Int32.ofInt 4 = nI 4 by decide +kernel, nI_add]
def wg_fr (I J : wg_S) : Prop := I 3 0 = 0 ∧ I 4 0 = 0 ∧ I 8 0 = 0 ∧ I 11 0 = 0 ∧ J 1 0 = 0 ∧ J 2 0 = 0 ∧ J 3 0 = 0
theorem wg_fr_0 : wg_fr wg_cX wg_cM := ⟨rfl, rfl, rfl, rfl, rfl, rfl, rfl⟩
