/-! More of words and distances: what the functional contracts rest on. -/
theorem wg_len_ln {n : Nat} (h : wg_ok n) : wg_ln n = wg_len n := by
  have key : ∀ i, i ≤ 12 → wg_cn n i = min i (wg_len n) := by
    intro i
    induction i with
    | zero => intro _; rw [wg_cn]; omega
    | succ i ih =>
      intro hi
      have e := ih (by omega)
      have hs := wg_cn_s n i
      by_cases q : i < wg_len n
      · rw [hs.2 (wg_len_ne q), e]; omega
      · rw [hs.1 (wg_ok_tail h i (by omega) (by omega)), e]; omega
  have hl := wg_len_le n
  unfold wg_ln
  rw [key 12 (Nat.le_refl _)]
  omega
theorem wg_digits {a b : Nat} (h : ∀ i, i < 12 → wg_lt a i = wg_lt b i) : ∀ k, k ≤ 12 → a % 2 ^ (5 * k) = b % 2 ^ (5 * k) := by
  intro k
  induction k with
  | zero => intro _; simp [Nat.mod_one]
  | succ k ih =>
    intro hk
    have e : ∀ n : Nat, n % 2 ^ (5 * (k + 1)) = n % 2 ^ (5 * k) + 2 ^ (5 * k) * wg_lt n (12 - (k + 1)) := by
      intro n
      unfold wg_lt
      rw [show 55 - 5 * (12 - (k + 1)) = 5 * k by omega, show 5 * (k + 1) = 5 * k + 5 by omega, Nat.pow_add, Nat.mod_mul]
    rw [e a, e b, ih (by omega), h (12 - (k + 1)) (by omega)]
theorem wg_same_word {a b : Nat} (ha : a < 2 ^ 60) (hb : b < 2 ^ 60) (h : ∀ i, i < 12 → wg_lt a i = wg_lt b i) : a = b := by
  have e := wg_digits h 12 (Nat.le_refl _)
  rw [show 5 * 12 = 60 by omega, Nat.mod_eq_of_lt ha, Nat.mod_eq_of_lt hb] at e
  exact e
theorem wg_shd_eq {a b i : Nat} (h : i < wg_shd a b) : wg_lt a i = wg_lt b i := by
  have := wg_run_all (fun i => wg_lt a i == wg_lt b i) 12 0 i (Nat.zero_le _) h
  simpa using this
theorem wg_shd_len {a b : Nat} (ha : wg_ok a) (hb : wg_ok b) (hne : ¬ a = b) : wg_shd a b ≤ wg_len a := by
  apply Nat.not_lt.mp
  intro q
  apply hne
  have hl := wg_shd_le a b
  have hz : wg_lt a (wg_len a) = 0 := wg_len_z (by omega)
  have hz2 : wg_lt b (wg_len a) = 0 := by rw [← wg_shd_eq q]; exact hz
  have hlb : wg_len b ≤ wg_len a := by
    apply Nat.not_lt.mp
    intro q2
    exact wg_len_ne q2 hz2
  refine wg_same_word ha.1 hb.1 (fun i hi => ?_)
  by_cases hs : i < wg_shd a b
  · exact wg_shd_eq hs
  · rw [wg_ok_tail ha i (by omega) hi, wg_ok_tail hb i (by omega) hi]
theorem wg_bt_pre {v w n : Nat} : ∀ r, (∀ i, i < r → wg_lt v i = wg_lt w i) → ∀ j, wg_bt v n r j = wg_bt w n r j := by
  intro r
  induction r with
  | zero => intro _ j; rw [wg_bt_0, wg_bt_0]
  | succ r ih =>
    intro h j
    have ih := ih (fun i hi => h i (by omega))
    induction j with
    | zero => rw [wg_bt_i, wg_bt_i]
    | succ j ihj => rw [wg_bt_s, wg_bt_s, ih j, ih (j + 1), ihj, h r (by omega)]
theorem wg_bt_sym (u v : Nat) : ∀ i j, wg_bt u v i j = wg_bt v u j i := by
  intro i
  induction i with
  | zero => intro j; rw [wg_bt_0, wg_bt_i]
  | succ i ih =>
    intro j
    induction j with
    | zero => rw [wg_bt_0, wg_bt_i]
    | succ j ihj =>
      rw [wg_bt_s, wg_bt_s, ih j, ih (j + 1), ihj]
      by_cases h : wg_lt u i = wg_lt v j
      · rw [if_pos h, if_pos h.symm]; omega
      · rw [if_neg h, if_neg (fun q => h q.symm)]; omega
theorem wg_rows_prev {T : Nat → Nat} {v w n a r i : Nat} (hv : wg_ok v) (hw : wg_ok w) (hne : ¬ v = w) (hT : ∀ x i, x ≤ wg_len v → i ≤ a → T (x * 13 + i) = wg_bt v n x i) (hr : r ≤ wg_shd v w) (hi : i ≤ a) : T (r * 13 + i) = wg_bt w n r i := by
  have hl := wg_shd_len hv hw hne
  rw [hT r i (by omega) hi]
  exact wg_bt_pre r (fun k hk => wg_shd_eq (by omega)) i
-- counting again
theorem wg_cq_lt {f : Nat → Nat} {e a b : Nat} (h : a < b) (hf : f a = e) : wg_cq f e a < wg_cq f e b := by
  have h2 := wg_cq_mono f e (show a + 1 ≤ b by omega)
  rw [wg_cq_t hf] at h2
  omega
theorem wg_ct_mono (f : Nat → Nat) (n : Nat) {a b : Nat} (h : a ≤ b) : wg_ct f a n ≤ wg_ct f b n := by
  induction b with
  | zero => rw [show a = 0 by omega]; exact Nat.le_refl _
  | succ b ih =>
    rcases Nat.eq_or_lt_of_le h with rfl | q
    · exact Nat.le_refl _
    · rw [wg_ct_s]
      have := ih (by omega)
      omega
/-- what the results hold when all words of distances under e, and of distance e those ahead of k, are taken -/
def wg_RS (f : Nat → Nat) (n : Nat) (A B : Nat → Nat) (e k : Nat) : Prop := ∀ e' k', k' < n → f k' = e' → (e' < e ∨ (e' = e ∧ k' < k)) → A (wg_ct f e' n + wg_cq f e' k') = k' ∧ B (wg_ct f e' n + wg_cq f e' k') = e'
theorem wg_RS_0 (f : Nat → Nat) (n : Nat) (A B : Nat → Nat) : wg_RS f n A B 0 0 := fun e' k' _ _ h => by omega
theorem wg_RS_n {f : Nat → Nat} {n : Nat} {A B : Nat → Nat} {e : Nat} (h : wg_RS f n A B e n) : wg_RS f n A B (e + 1) 0 := fun e' k' h1 h2 h3 => h e' k' h1 h2 (by omega)
theorem wg_RS_f {f : Nat → Nat} {n : Nat} {A B : Nat → Nat} {e k : Nat} (h : wg_RS f n A B e k) (hk : ¬ f k = e) : wg_RS f n A B e (k + 1) := fun e' k' h1 h2 h3 => h e' k' h1 h2 (by
  rcases h3 with h3 | ⟨h3, h4⟩
  · exact Or.inl h3
  · refine Or.inr ⟨h3, ?_⟩
    apply Nat.lt_of_le_of_ne (by omega)
    intro q
    subst q
    exact hk (h2.trans h3))
theorem wg_RS_t {f : Nat → Nat} {n : Nat} {A B A' B' : Nat → Nat} {e k : Nat} (h : wg_RS f n A B e k) (hkn : k < n) (hk : f k = e) (hA : ∀ x, ¬ x = wg_ct f e n + wg_cq f e k → A' x = A x) (hB : ∀ x, ¬ x = wg_ct f e n + wg_cq f e k → B' x = B x) (hA1 : A' (wg_ct f e n + wg_cq f e k) = k) (hB1 : B' (wg_ct f e n + wg_cq f e k) = e) : wg_RS f n A' B' e (k + 1) := by
  intro e' k' h1 h2 h3
  by_cases q : e' = e ∧ k' = k
  · obtain ⟨rfl, rfl⟩ := q
    exact ⟨hA1, hB1⟩
  · have h4 : e' < e ∨ (e' = e ∧ k' < k) := by omega
    have hlt : wg_ct f e' n + wg_cq f e' k' < wg_ct f e n + wg_cq f e k := by
      rcases h4 with h4 | ⟨rfl, h4⟩
      · have a1 := wg_cq_lt h1 h2
        have a2 := wg_ct_s f e' n
        have a3 := wg_ct_mono f n (show e' + 1 ≤ e by omega)
        omega
      · have := wg_cq_lt h4 h2
        omega
    rw [hA _ (by omega), hB _ (by omega)]
    exact h e' k' h1 h2 h4
theorem wg_cq_at {f : Nat → Nat} {e : Nat} : ∀ n i, i < wg_cq f e n → ∃ k, k < n ∧ f k = e ∧ wg_cq f e k = i := by
  intro n
  induction n with
  | zero => intro i h; rw [wg_cq] at h; omega
  | succ n ih =>
    intro i h
    by_cases q : i < wg_cq f e n
    · obtain ⟨k, h1, h2, h3⟩ := ih i q
      exact ⟨k, by omega, h2, h3⟩
    · by_cases hf : f n = e
      · rw [wg_cq_t hf] at h
        exact ⟨n, by omega, hf, by omega⟩
      · rw [wg_cq_f hf] at h
        omega
theorem wg_ct_at {f : Nat → Nat} {n : Nat} : ∀ E i, i < wg_ct f E n → ∃ e k, e < E ∧ k < n ∧ f k = e ∧ i = wg_ct f e n + wg_cq f e k := by
  intro E
  induction E with
  | zero => intro i h; rw [wg_ct_0] at h; omega
  | succ E ih =>
    intro i h
    by_cases q : i < wg_ct f E n
    · obtain ⟨e, k, h1, h2, h3, h4⟩ := ih i q
      exact ⟨e, k, by omega, h2, h3, h4⟩
    · rw [wg_ct_s] at h
      obtain ⟨k, h1, h2, h3⟩ := wg_cq_at (f := f) (e := E) n (i - wg_ct f E n) (by omega)
      exact ⟨E, k, by omega, h1, h2, by omega⟩
theorem wg_cq_ext {f g : Nat → Nat} {e : Nat} : ∀ n, (∀ k, k < n → f k = g k) → wg_cq f e n = wg_cq g e n := by
  intro n
  induction n with
  | zero => intro _; rfl
  | succ n ih => intro h; rw [wg_cq, wg_cq, ih (fun k hk => h k (by omega)), h n (by omega)]
theorem wg_ct_ext {f g : Nat → Nat} {e : Nat} : ∀ n, (∀ k, k < n → f k = g k) → wg_ct f e n = wg_ct g e n := by
  intro n
  induction n with
  | zero => intro _; rfl
  | succ n ih => intro h; rw [wg_ct, wg_ct, ih (fun k hk => h k (by omega)), h n (by omega)]
/-- two that hold the same results, as far as they go -/
theorem wg_RS_same {f g : Nat → Nat} {n E : Nat} {A B A' B' : Nat → Nat} (hfg : ∀ k, k < n → f k = g k) (h : wg_RS f n A B E 0) (h' : wg_RS g n A' B' E 0) : ∀ i, i < wg_ct f E n → A i = A' i ∧ B i = B' i := by
  intro i hi
  obtain ⟨e, k, h1, h2, h3, rfl⟩ := wg_ct_at E i hi
  obtain ⟨a1, a2⟩ := h e k h2 h3 (Or.inl h1)
  have b := h' e k h2 ((hfg k h2).symm.trans h3) (Or.inl h1)
  rw [← wg_ct_ext n hfg, ← wg_cq_ext k (fun j hj => hfg j (by omega))] at b
  exact ⟨a1.trans b.1.symm, a2.trans b.2.symm⟩
/-- the words kept: what the functional contracts need of the class's arrays -/
def wg_XF (I : wg_S) : Prop := (∀ k, k < I 3 0 → wg_ok (I 0 k) ∧ I 1 k = wg_len (I 0 k)) ∧ (0 < I 3 0 → I 2 0 = 0) ∧ (∀ k, 0 < k → k < I 3 0 → I 2 k = wg_shd (I 0 (k - 1)) (I 0 k) + 1 ∧ I 0 (k - 1) < I 0 k)
theorem wg_XF_fr {I u : wg_S} (h : wg_XF I) (hf : ∀ j, j < 4 → u j = I j) : wg_XF u := by
  unfold wg_XF
  rw [hf 0 (by omega), hf 1 (by omega), hf 2 (by omega), hf 3 (by omega)]
  exact h
theorem wg_XF_add0 {I : wg_S} {n : Nat} (hn : wg_ok n) (h3 : I 3 0 = 0) : wg_XF (wg_st (wg_st (wg_st (wg_st I 0 (I 3 0) n) 1 (I 3 0) (wg_len n)) 2 (I 3 0) 0) 3 0 (I 3 0 + 1)) := by
  have e0 : ∀ k, wg_st (wg_st (wg_st (wg_st I 0 (I 3 0) n) 1 (I 3 0) (wg_len n)) 2 (I 3 0) 0) 3 0 (I 3 0 + 1) 0 k = wg_st I 0 (I 3 0) n 0 k := fun _ => rfl
  refine ⟨fun k hk => ?_, fun _ => ?_, fun k h0 hk => ?_⟩
  · have hk : k < I 3 0 + 1 := hk
    have hk : k = I 3 0 := by omega
    subst hk
    exact ⟨by show wg_ok (wg_st I 0 (I 3 0) n 0 (I 3 0)); rw [wg_st_s]; exact hn, by show wg_st I 1 (I 3 0) (wg_len n) 1 (I 3 0) = wg_len (wg_st I 0 (I 3 0) n 0 (I 3 0)); rw [wg_st_s, wg_st_s]⟩
  · show wg_st I 2 (I 3 0) 0 2 0 = 0
    rw [h3, wg_st_s]
  · have hk : k < I 3 0 + 1 := hk
    omega
theorem wg_XF_add1 {I : wg_S} {n : Nat} (h : wg_XF I) (hn : wg_ok n) (h3 : 0 < I 3 0) (hlt : I 0 (I 3 0 - 1) < n) : wg_XF (wg_st (wg_st (wg_st (wg_st I 0 (I 3 0) n) 1 (I 3 0) (wg_len n)) 2 (I 3 0) (wg_shd (wg_st I 0 (I 3 0) n 0 (I 3 0 - 1)) n + 1)) 3 0 (I 3 0 + 1)) := by
  obtain ⟨a, b, c⟩ := h
  refine ⟨fun k hk => ?_, fun _ => ?_, fun k h0 hk => ?_⟩
  · have hk : k < I 3 0 + 1 := hk
    show wg_ok (wg_st I 0 (I 3 0) n 0 k) ∧ wg_st I 1 (I 3 0) (wg_len n) 1 k = wg_len (wg_st I 0 (I 3 0) n 0 k)
    by_cases q : k = I 3 0
    · subst q
      rw [wg_st_s, wg_st_s]
      exact ⟨hn, rfl⟩
    · rw [wg_st_n _ _ _ _ q, wg_st_n _ _ _ _ q]
      exact a k (by omega)
  · show wg_st I 2 (I 3 0) (wg_shd (wg_st I 0 (I 3 0) n 0 (I 3 0 - 1)) n + 1) 2 0 = 0
    rw [wg_st_n _ _ _ _ (by omega)]
    exact b h3
  · have hk : k < I 3 0 + 1 := hk
    show wg_st I 2 (I 3 0) (wg_shd (wg_st I 0 (I 3 0) n 0 (I 3 0 - 1)) n + 1) 2 k = wg_shd (wg_st I 0 (I 3 0) n 0 (k - 1)) (wg_st I 0 (I 3 0) n 0 k) + 1 ∧ wg_st I 0 (I 3 0) n 0 (k - 1) < wg_st I 0 (I 3 0) n 0 k
    by_cases q : k = I 3 0
    · subst q
      rw [wg_st_s, wg_st_s]
      exact ⟨rfl, by rw [wg_st_n _ _ _ _ (by omega)]; exact hlt⟩
    · rw [wg_st_n _ _ _ _ q, wg_st_n _ _ _ _ q, wg_st_n I 0 (I 3 0) n (show ¬ k - 1 = I 3 0 by omega)]
      exact c k h0 (by omega)
theorem wg_dno1 {d : Int32} (h : d < 0) : ¬ ∃ dn, dn ≤ 3 ∧ d = nI dn := by
  rintro ⟨dn, h1, rfl⟩
  exact nI_pos (by omega) h
theorem wg_dno2 {d : Int32} (h : ¬ d ≤ nI 3) : ¬ ∃ dn, dn ≤ 3 ∧ d = nI dn := by
  rintro ⟨dn, h1, rfl⟩
  exact h (nI_le h1 (by decide))
theorem wg_RS_ext {f g : Nat → Nat} {n E : Nat} {A B : Nat → Nat} (hfg : ∀ k, k < n → f k = g k) (h : wg_RS f n A B E 0) : wg_RS g n A B E 0 := by
  intro e k h1 h2 h3
  have b := h e k h1 ((hfg k h1).trans h2) h3
  rw [wg_ct_ext n hfg, wg_cq_ext k (fun j hj => hfg j (by omega))] at b
  exact b
