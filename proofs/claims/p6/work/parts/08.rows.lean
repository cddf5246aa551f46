/-! Fields and arrays of the two classes, a row each. -/
section ROWS
variable {p : Program} {l : Launch} {e : Env} {R : Room} {s : State} {m : MethodId} {args : Array Value} {below : List Frame} {meth : Method} {c : Code} {H : Heap} {locs : List Loc} {cells slots : Nat} {Q : State → Prop} {cc : ByteArray} {pc : Nat} {ls : Array Slot} {rest : List Value} {D : va_G} {A : Nat → Prop} {a : Nat} {cJ cI : ClassId} {ws : va_W} {H0 : Heap} {h0 : Nat} {ad : Nat → Nat} {I : wg_S}
theorem wg_gX (hx : p.tables.exec = Jvm.exec) (hb : c.code = cc) (hts : ∀ w ∈ wg_tbl, w.before args s = true) (hown : s.vm.findClass R_X = some m.cls) (hK : va_K D wg_cl (wg_ty cJ cI) s) (hP : va_P D wg_cl (wg_WX cJ cI h0 ad I) H) (k : Nat) (hk : k < 14) {idx : Nat} {v : Value} (hlink : Cond.fieldLink R_X idx (F_X k).1 (F_X k).2.1 (F_X k).2.2.1 ∈ wg_tbl) (hv : (wg_FX ad I)[k]? = some v) (hdg : decode cc pc = .ok (.getfield idx, 3)) (kk : W p l e R s m args below meth c H locs cells slots Q (F0 m (pc + 3) ls (v :: rest))) : W p l e R s m args below meth c H locs cells slots Q (F0 m pc ls (.ref h0 :: rest)) :=
  va_get (C := R_X) (T := F_X) (N := 14) (ci := 0) hx hb hts wg_inX hown hK hP 0 rfl rfl k hk (hts _ hlink) (fun _ h => h) hv hdg kk
theorem wg_pX3 (hx : p.tables.exec = Jvm.exec) (hb : c.code = cc) (hts : ∀ w ∈ wg_tbl, w.before args s = true) (hown : s.vm.findClass R_X = some m.cls) (hK : va_K D wg_cl (wg_ty cJ cI) s) (hP : va_P D wg_cl (wg_WX cJ cI h0 ad I) H) (hD : ∀ J, va_D A (wg_WX cJ cI h0 ad J)) (hS : va_S A H0 H locs) {idx v : Nat} (hlink : Cond.fieldLink R_X idx (F_X 3).1 (F_X 3).2.1 (F_X 3).2.2.1 ∈ wg_tbl) (hdg : decode cc pc = .ok (.putfield idx, 3)) (kk : ∀ (H1 : Heap) (locs1 : List Loc), va_P D wg_cl (wg_WX cJ cI h0 ad (wg_st I 3 0 v)) H1 → va_S A H0 H1 locs1 → W p l e R s m args below meth c H1 locs1 cells slots Q (F0 m (pc + 3) ls rest)) : W p l e R s m args below meth c H locs cells slots Q (F0 m pc ls (.int (nI v) :: .ref h0 :: rest)) :=
  va_put (D := D) (ci := 0) (v := .int (nI v)) (ty := .int) (C := R_X) (T := F_X) (N := 14) hx hb hts wg_inX t_X t_X_ok n_X hown hK hP (hD I) hS 0 rfl rfl 3 (by decide) (hts _ hlink) (fun _ h => h) rfl (by decide +kernel) rfl rfl (Nat.le_of_ble_eq_true rfl) hdg (fun H1 l1 h1 _ h3 => kk H1 l1 h1 h3)
theorem wg_pX4 (hx : p.tables.exec = Jvm.exec) (hb : c.code = cc) (hts : ∀ w ∈ wg_tbl, w.before args s = true) (hown : s.vm.findClass R_X = some m.cls) (hK : va_K D wg_cl (wg_ty cJ cI) s) (hP : va_P D wg_cl (wg_WX cJ cI h0 ad I) H) (hD : ∀ J, va_D A (wg_WX cJ cI h0 ad J)) (hS : va_S A H0 H locs) {idx v : Nat} (hlink : Cond.fieldLink R_X idx (F_X 4).1 (F_X 4).2.1 (F_X 4).2.2.1 ∈ wg_tbl) (hnr : narrow .boolean (.int (nI v)) = .int (nI v)) (hft : fits .boolean (.int (nI v)) = true) (hdg : decode cc pc = .ok (.putfield idx, 3)) (kk : ∀ (H1 : Heap) (locs1 : List Loc), va_P D wg_cl (wg_WX cJ cI h0 ad (wg_st I 4 0 v)) H1 → va_S A H0 H1 locs1 → W p l e R s m args below meth c H1 locs1 cells slots Q (F0 m (pc + 3) ls rest)) : W p l e R s m args below meth c H locs cells slots Q (F0 m pc ls (.int (nI v) :: .ref h0 :: rest)) :=
  va_put (D := D) (ci := 0) (v := .int (nI v)) (ty := .boolean) (C := R_X) (T := F_X) (N := 14) hx hb hts wg_inX t_X t_X_ok n_X hown hK hP (hD I) hS 0 rfl rfl 4 (by decide) (hts _ hlink) (fun _ h => h) rfl (by decide +kernel) hnr hft (Nat.le_of_ble_eq_true rfl) hdg (fun H1 l1 h1 _ h3 => kk H1 l1 h1 h3)
theorem wg_pX8 (hx : p.tables.exec = Jvm.exec) (hb : c.code = cc) (hts : ∀ w ∈ wg_tbl, w.before args s = true) (hown : s.vm.findClass R_X = some m.cls) (hK : va_K D wg_cl (wg_ty cJ cI) s) (hP : va_P D wg_cl (wg_WX cJ cI h0 ad I) H) (hD : ∀ J, va_D A (wg_WX cJ cI h0 ad J)) (hS : va_S A H0 H locs) {idx v : Nat} (hlink : Cond.fieldLink R_X idx (F_X 8).1 (F_X 8).2.1 (F_X 8).2.2.1 ∈ wg_tbl) (hdg : decode cc pc = .ok (.putfield idx, 3)) (kk : ∀ (H1 : Heap) (locs1 : List Loc), va_P D wg_cl (wg_WX cJ cI h0 ad (wg_st I 8 0 v)) H1 → va_S A H0 H1 locs1 → W p l e R s m args below meth c H1 locs1 cells slots Q (F0 m (pc + 3) ls rest)) : W p l e R s m args below meth c H locs cells slots Q (F0 m pc ls (.int (nI v) :: .ref h0 :: rest)) :=
  va_put (D := D) (ci := 0) (v := .int (nI v)) (ty := .int) (C := R_X) (T := F_X) (N := 14) hx hb hts wg_inX t_X t_X_ok n_X hown hK hP (hD I) hS 0 rfl rfl 8 (by decide) (hts _ hlink) (fun _ h => h) rfl (by decide +kernel) rfl rfl (Nat.le_of_ble_eq_true rfl) hdg (fun H1 l1 h1 _ h3 => kk H1 l1 h1 h3)
theorem wg_pX11 (hx : p.tables.exec = Jvm.exec) (hb : c.code = cc) (hts : ∀ w ∈ wg_tbl, w.before args s = true) (hown : s.vm.findClass R_X = some m.cls) (hK : va_K D wg_cl (wg_ty cJ cI) s) (hP : va_P D wg_cl (wg_WX cJ cI h0 ad I) H) (hD : ∀ J, va_D A (wg_WX cJ cI h0 ad J)) (hS : va_S A H0 H locs) {idx v : Nat} (hlink : Cond.fieldLink R_X idx (F_X 11).1 (F_X 11).2.1 (F_X 11).2.2.1 ∈ wg_tbl) (hdg : decode cc pc = .ok (.putfield idx, 3)) (kk : ∀ (H1 : Heap) (locs1 : List Loc), va_P D wg_cl (wg_WX cJ cI h0 ad (wg_st I 11 0 v)) H1 → va_S A H0 H1 locs1 → W p l e R s m args below meth c H1 locs1 cells slots Q (F0 m (pc + 3) ls rest)) : W p l e R s m args below meth c H locs cells slots Q (F0 m pc ls (.int (nI v) :: .ref h0 :: rest)) :=
  va_put (D := D) (ci := 0) (v := .int (nI v)) (ty := .int) (C := R_X) (T := F_X) (N := 14) hx hb hts wg_inX t_X t_X_ok n_X hown hK hP (hD I) hS 0 rfl rfl 11 (by decide) (hts _ hlink) (fun _ h => h) rfl (by decide +kernel) rfl rfl (Nat.le_of_ble_eq_true rfl) hdg (fun H1 l1 h1 _ h3 => kk H1 l1 h1 h3)
theorem wg_sX0 (hx : p.tables.exec = Jvm.exec) (hb : c.code = cc) (hK : va_K D wg_cl (wg_ty cJ cI) s) (hP : va_P D wg_cl (wg_WX cJ cI h0 ad I) H) (hD : ∀ J, va_D A (wg_WX cJ cI h0 ad J)) (hS : va_S A H0 H locs) {j x : Nat} (hj : j < 48) (hdg : decode cc pc = .ok (.lastore, 1)) (kk : ∀ (H1 : Heap) (locs1 : List Loc), va_P D wg_cl (wg_WX cJ cI h0 ad (wg_st I 0 j x)) H1 → va_S A H0 H1 locs1 → W p l e R s m args below meth c H1 locs1 cells slots Q (F0 m (pc + 1) ls rest)) : W p l e R s m args below meth c H locs cells slots Q (F0 m pc ls (.long (lN x) :: .int (nI j) :: .ref (ad 0) :: rest)) :=
  wg_lst hx hb hK hP (hD I) hS 1 (f := I 0) rfl hj (by decide) hdg (fun H1 l1 h1 h2 => kk H1 l1 h1 h2)
theorem wg_sX1 (hx : p.tables.exec = Jvm.exec) (hb : c.code = cc) (hK : va_K D wg_cl (wg_ty cJ cI) s) (hP : va_P D wg_cl (wg_WX cJ cI h0 ad I) H) (hD : ∀ J, va_D A (wg_WX cJ cI h0 ad J)) (hS : va_S A H0 H locs) {j x : Nat} (hj : j < 48) (hdg : decode cc pc = .ok (.iastore, 1)) (kk : ∀ (H1 : Heap) (locs1 : List Loc), va_P D wg_cl (wg_WX cJ cI h0 ad (wg_st I 1 j x)) H1 → va_S A H0 H1 locs1 → W p l e R s m args below meth c H1 locs1 cells slots Q (F0 m (pc + 1) ls rest)) : W p l e R s m args below meth c H locs cells slots Q (F0 m pc ls (.int (nI x) :: .int (nI j) :: .ref (ad 1) :: rest)) :=
  wg_ist hx hb hK hP (hD I) hS 2 (f := I 1) rfl hj (by decide) hdg (fun H1 l1 h1 h2 => kk H1 l1 h1 h2)
theorem wg_sX2 (hx : p.tables.exec = Jvm.exec) (hb : c.code = cc) (hK : va_K D wg_cl (wg_ty cJ cI) s) (hP : va_P D wg_cl (wg_WX cJ cI h0 ad I) H) (hD : ∀ J, va_D A (wg_WX cJ cI h0 ad J)) (hS : va_S A H0 H locs) {j x : Nat} (hj : j < 48) (hdg : decode cc pc = .ok (.iastore, 1)) (kk : ∀ (H1 : Heap) (locs1 : List Loc), va_P D wg_cl (wg_WX cJ cI h0 ad (wg_st I 2 j x)) H1 → va_S A H0 H1 locs1 → W p l e R s m args below meth c H1 locs1 cells slots Q (F0 m (pc + 1) ls rest)) : W p l e R s m args below meth c H locs cells slots Q (F0 m pc ls (.int (nI x) :: .int (nI j) :: .ref (ad 2) :: rest)) :=
  wg_ist hx hb hK hP (hD I) hS 3 (f := I 2) rfl hj (by decide) hdg (fun H1 l1 h1 h2 => kk H1 l1 h1 h2)
theorem wg_sX5 (hx : p.tables.exec = Jvm.exec) (hb : c.code = cc) (hK : va_K D wg_cl (wg_ty cJ cI) s) (hP : va_P D wg_cl (wg_WX cJ cI h0 ad I) H) (hD : ∀ J, va_D A (wg_WX cJ cI h0 ad J)) (hS : va_S A H0 H locs) {j x : Nat} (hj : j < 624) (hdg : decode cc pc = .ok (.iastore, 1)) (kk : ∀ (H1 : Heap) (locs1 : List Loc), va_P D wg_cl (wg_WX cJ cI h0 ad (wg_st I 5 j x)) H1 → va_S A H0 H1 locs1 → W p l e R s m args below meth c H1 locs1 cells slots Q (F0 m (pc + 1) ls rest)) : W p l e R s m args below meth c H locs cells slots Q (F0 m pc ls (.int (nI x) :: .int (nI j) :: .ref (ad 5) :: rest)) :=
  wg_ist hx hb hK hP (hD I) hS 4 (f := I 5) rfl hj (by decide) hdg (fun H1 l1 h1 h2 => kk H1 l1 h1 h2)
theorem wg_sX6 (hx : p.tables.exec = Jvm.exec) (hb : c.code = cc) (hK : va_K D wg_cl (wg_ty cJ cI) s) (hP : va_P D wg_cl (wg_WX cJ cI h0 ad I) H) (hD : ∀ J, va_D A (wg_WX cJ cI h0 ad J)) (hS : va_S A H0 H locs) {j x : Nat} (hj : j < 577) (hdg : decode cc pc = .ok (.iastore, 1)) (kk : ∀ (H1 : Heap) (locs1 : List Loc), va_P D wg_cl (wg_WX cJ cI h0 ad (wg_st I 6 j x)) H1 → va_S A H0 H1 locs1 → W p l e R s m args below meth c H1 locs1 cells slots Q (F0 m (pc + 1) ls rest)) : W p l e R s m args below meth c H locs cells slots Q (F0 m pc ls (.int (nI x) :: .int (nI j) :: .ref (ad 6) :: rest)) :=
  wg_ist hx hb hK hP (hD I) hS 5 (f := I 6) rfl hj (by decide) hdg (fun H1 l1 h1 h2 => kk H1 l1 h1 h2)
theorem wg_sX7 (hx : p.tables.exec = Jvm.exec) (hb : c.code = cc) (hK : va_K D wg_cl (wg_ty cJ cI) s) (hP : va_P D wg_cl (wg_WX cJ cI h0 ad I) H) (hD : ∀ J, va_D A (wg_WX cJ cI h0 ad J)) (hS : va_S A H0 H locs) {j x : Nat} (hj : j < 577) (hdg : decode cc pc = .ok (.iastore, 1)) (kk : ∀ (H1 : Heap) (locs1 : List Loc), va_P D wg_cl (wg_WX cJ cI h0 ad (wg_st I 7 j x)) H1 → va_S A H0 H1 locs1 → W p l e R s m args below meth c H1 locs1 cells slots Q (F0 m (pc + 1) ls rest)) : W p l e R s m args below meth c H locs cells slots Q (F0 m pc ls (.int (nI x) :: .int (nI j) :: .ref (ad 7) :: rest)) :=
  wg_ist hx hb hK hP (hD I) hS 6 (f := I 7) rfl hj (by decide) hdg (fun H1 l1 h1 h2 => kk H1 l1 h1 h2)
theorem wg_sX9 (hx : p.tables.exec = Jvm.exec) (hb : c.code = cc) (hK : va_K D wg_cl (wg_ty cJ cI) s) (hP : va_P D wg_cl (wg_WX cJ cI h0 ad I) H) (hD : ∀ J, va_D A (wg_WX cJ cI h0 ad J)) (hS : va_S A H0 H locs) {j x : Nat} (hj : j < 48) (hdg : decode cc pc = .ok (.iastore, 1)) (kk : ∀ (H1 : Heap) (locs1 : List Loc), va_P D wg_cl (wg_WX cJ cI h0 ad (wg_st I 9 j x)) H1 → va_S A H0 H1 locs1 → W p l e R s m args below meth c H1 locs1 cells slots Q (F0 m (pc + 1) ls rest)) : W p l e R s m args below meth c H locs cells slots Q (F0 m pc ls (.int (nI x) :: .int (nI j) :: .ref (ad 9) :: rest)) :=
  wg_ist hx hb hK hP (hD I) hS 7 (f := I 9) rfl hj (by decide) hdg (fun H1 l1 h1 h2 => kk H1 l1 h1 h2)
theorem wg_sX10 (hx : p.tables.exec = Jvm.exec) (hb : c.code = cc) (hK : va_K D wg_cl (wg_ty cJ cI) s) (hP : va_P D wg_cl (wg_WX cJ cI h0 ad I) H) (hD : ∀ J, va_D A (wg_WX cJ cI h0 ad J)) (hS : va_S A H0 H locs) {j x : Nat} (hj : j < 48) (hdg : decode cc pc = .ok (.iastore, 1)) (kk : ∀ (H1 : Heap) (locs1 : List Loc), va_P D wg_cl (wg_WX cJ cI h0 ad (wg_st I 10 j x)) H1 → va_S A H0 H1 locs1 → W p l e R s m args below meth c H1 locs1 cells slots Q (F0 m (pc + 1) ls rest)) : W p l e R s m args below meth c H locs cells slots Q (F0 m pc ls (.int (nI x) :: .int (nI j) :: .ref (ad 10) :: rest)) :=
  wg_ist hx hb hK hP (hD I) hS 8 (f := I 10) rfl hj (by decide) hdg (fun H1 l1 h1 h2 => kk H1 l1 h1 h2)
theorem wg_sX12 (hx : p.tables.exec = Jvm.exec) (hb : c.code = cc) (hK : va_K D wg_cl (wg_ty cJ cI) s) (hP : va_P D wg_cl (wg_WX cJ cI h0 ad I) H) (hD : ∀ J, va_D A (wg_WX cJ cI h0 ad J)) (hS : va_S A H0 H locs) {j x : Nat} (hj : j < 169) (hdg : decode cc pc = .ok (.iastore, 1)) (kk : ∀ (H1 : Heap) (locs1 : List Loc), va_P D wg_cl (wg_WX cJ cI h0 ad (wg_st I 12 j x)) H1 → va_S A H0 H1 locs1 → W p l e R s m args below meth c H1 locs1 cells slots Q (F0 m (pc + 1) ls rest)) : W p l e R s m args below meth c H locs cells slots Q (F0 m pc ls (.int (nI x) :: .int (nI j) :: .ref (ad 12) :: rest)) :=
  wg_ist hx hb hK hP (hD I) hS 9 (f := I 12) rfl hj (by decide) hdg (fun H1 l1 h1 h2 => kk H1 l1 h1 h2)
theorem wg_sX13 (hx : p.tables.exec = Jvm.exec) (hb : c.code = cc) (hK : va_K D wg_cl (wg_ty cJ cI) s) (hP : va_P D wg_cl (wg_WX cJ cI h0 ad I) H) (hD : ∀ J, va_D A (wg_WX cJ cI h0 ad J)) (hS : va_S A H0 H locs) {j x : Nat} (hj : j < 48) (hdg : decode cc pc = .ok (.iastore, 1)) (kk : ∀ (H1 : Heap) (locs1 : List Loc), va_P D wg_cl (wg_WX cJ cI h0 ad (wg_st I 13 j x)) H1 → va_S A H0 H1 locs1 → W p l e R s m args below meth c H1 locs1 cells slots Q (F0 m (pc + 1) ls rest)) : W p l e R s m args below meth c H locs cells slots Q (F0 m pc ls (.int (nI x) :: .int (nI j) :: .ref (ad 13) :: rest)) :=
  wg_ist hx hb hK hP (hD I) hS 10 (f := I 13) rfl hj (by decide) hdg (fun H1 l1 h1 h2 => kk H1 l1 h1 h2)
theorem wg_gM (hx : p.tables.exec = Jvm.exec) (hb : c.code = cc) (hts : ∀ w ∈ wg_tbl, w.before args s = true) (hown : s.vm.findClass R_M = some m.cls) (hK : va_K D wg_cl (wg_ty cJ cI) s) (hP : va_P D wg_cl (wg_WM cJ cI h0 ad I) H) (k : Nat) (hk : k < 11) {idx : Nat} {v : Value} (hlink : Cond.fieldLink R_M idx (F_M k).1 (F_M k).2.1 (F_M k).2.2.1 ∈ wg_tbl) (hv : (wg_FM ad I)[k]? = some v) (hdg : decode cc pc = .ok (.getfield idx, 3)) (kk : W p l e R s m args below meth c H locs cells slots Q (F0 m (pc + 3) ls (v :: rest))) : W p l e R s m args below meth c H locs cells slots Q (F0 m pc ls (.ref h0 :: rest)) :=
  va_get (C := R_M) (T := F_M) (N := 11) (ci := 1) hx hb hts wg_inM hown hK hP 0 rfl rfl k hk (hts _ hlink) (fun _ h => h) hv hdg kk
theorem wg_pM1 (hx : p.tables.exec = Jvm.exec) (hb : c.code = cc) (hts : ∀ w ∈ wg_tbl, w.before args s = true) (hown : s.vm.findClass R_M = some m.cls) (hK : va_K D wg_cl (wg_ty cJ cI) s) (hP : va_P D wg_cl (wg_WM cJ cI h0 ad I) H) (hD : ∀ J, va_D A (wg_WM cJ cI h0 ad J)) (hS : va_S A H0 H locs) {idx v : Nat} (hlink : Cond.fieldLink R_M idx (F_M 1).1 (F_M 1).2.1 (F_M 1).2.2.1 ∈ wg_tbl) (hdg : decode cc pc = .ok (.putfield idx, 3)) (kk : ∀ (H1 : Heap) (locs1 : List Loc), va_P D wg_cl (wg_WM cJ cI h0 ad (wg_st I 1 0 v)) H1 → va_S A H0 H1 locs1 → W p l e R s m args below meth c H1 locs1 cells slots Q (F0 m (pc + 3) ls rest)) : W p l e R s m args below meth c H locs cells slots Q (F0 m pc ls (.int (nI v) :: .ref h0 :: rest)) :=
  va_put (D := D) (ci := 1) (v := .int (nI v)) (ty := .int) (C := R_M) (T := F_M) (N := 11) hx hb hts wg_inM t_M t_M_ok n_M hown hK hP (hD I) hS 0 rfl rfl 1 (by decide) (hts _ hlink) (fun _ h => h) rfl (by decide +kernel) rfl rfl (Nat.le_of_ble_eq_true rfl) hdg (fun H1 l1 h1 _ h3 => kk H1 l1 h1 h3)
theorem wg_pM2 (hx : p.tables.exec = Jvm.exec) (hb : c.code = cc) (hts : ∀ w ∈ wg_tbl, w.before args s = true) (hown : s.vm.findClass R_M = some m.cls) (hK : va_K D wg_cl (wg_ty cJ cI) s) (hP : va_P D wg_cl (wg_WM cJ cI h0 ad I) H) (hD : ∀ J, va_D A (wg_WM cJ cI h0 ad J)) (hS : va_S A H0 H locs) {idx v : Nat} (hlink : Cond.fieldLink R_M idx (F_M 2).1 (F_M 2).2.1 (F_M 2).2.2.1 ∈ wg_tbl) (hnr : narrow .boolean (.int (nI v)) = .int (nI v)) (hft : fits .boolean (.int (nI v)) = true) (hdg : decode cc pc = .ok (.putfield idx, 3)) (kk : ∀ (H1 : Heap) (locs1 : List Loc), va_P D wg_cl (wg_WM cJ cI h0 ad (wg_st I 2 0 v)) H1 → va_S A H0 H1 locs1 → W p l e R s m args below meth c H1 locs1 cells slots Q (F0 m (pc + 3) ls rest)) : W p l e R s m args below meth c H locs cells slots Q (F0 m pc ls (.int (nI v) :: .ref h0 :: rest)) :=
  va_put (D := D) (ci := 1) (v := .int (nI v)) (ty := .boolean) (C := R_M) (T := F_M) (N := 11) hx hb hts wg_inM t_M t_M_ok n_M hown hK hP (hD I) hS 0 rfl rfl 2 (by decide) (hts _ hlink) (fun _ h => h) rfl (by decide +kernel) hnr hft (Nat.le_of_ble_eq_true rfl) hdg (fun H1 l1 h1 _ h3 => kk H1 l1 h1 h3)
theorem wg_pM3 (hx : p.tables.exec = Jvm.exec) (hb : c.code = cc) (hts : ∀ w ∈ wg_tbl, w.before args s = true) (hown : s.vm.findClass R_M = some m.cls) (hK : va_K D wg_cl (wg_ty cJ cI) s) (hP : va_P D wg_cl (wg_WM cJ cI h0 ad I) H) (hD : ∀ J, va_D A (wg_WM cJ cI h0 ad J)) (hS : va_S A H0 H locs) {idx v : Nat} (hlink : Cond.fieldLink R_M idx (F_M 3).1 (F_M 3).2.1 (F_M 3).2.2.1 ∈ wg_tbl) (hdg : decode cc pc = .ok (.putfield idx, 3)) (kk : ∀ (H1 : Heap) (locs1 : List Loc), va_P D wg_cl (wg_WM cJ cI h0 ad (wg_st I 3 0 v)) H1 → va_S A H0 H1 locs1 → W p l e R s m args below meth c H1 locs1 cells slots Q (F0 m (pc + 3) ls rest)) : W p l e R s m args below meth c H locs cells slots Q (F0 m pc ls (.int (nI v) :: .ref h0 :: rest)) :=
  va_put (D := D) (ci := 1) (v := .int (nI v)) (ty := .int) (C := R_M) (T := F_M) (N := 11) hx hb hts wg_inM t_M t_M_ok n_M hown hK hP (hD I) hS 0 rfl rfl 3 (by decide) (hts _ hlink) (fun _ h => h) rfl (by decide +kernel) rfl rfl (Nat.le_of_ble_eq_true rfl) hdg (fun H1 l1 h1 _ h3 => kk H1 l1 h1 h3)
theorem wg_pM9 (hx : p.tables.exec = Jvm.exec) (hb : c.code = cc) (hts : ∀ w ∈ wg_tbl, w.before args s = true) (hown : s.vm.findClass R_M = some m.cls) (hK : va_K D wg_cl (wg_ty cJ cI) s) (hP : va_P D wg_cl (wg_WM cJ cI h0 ad I) H) (hD : ∀ J, va_D A (wg_WM cJ cI h0 ad J)) (hS : va_S A H0 H locs) {idx v : Nat} (hlink : Cond.fieldLink R_M idx (F_M 9).1 (F_M 9).2.1 (F_M 9).2.2.1 ∈ wg_tbl) (hdg : decode cc pc = .ok (.putfield idx, 3)) (kk : ∀ (H1 : Heap) (locs1 : List Loc), va_P D wg_cl (wg_WM cJ cI h0 ad (wg_st I 9 0 v)) H1 → va_S A H0 H1 locs1 → W p l e R s m args below meth c H1 locs1 cells slots Q (F0 m (pc + 3) ls rest)) : W p l e R s m args below meth c H locs cells slots Q (F0 m pc ls (.int (nI v) :: .ref h0 :: rest)) :=
  va_put (D := D) (ci := 1) (v := .int (nI v)) (ty := .int) (C := R_M) (T := F_M) (N := 11) hx hb hts wg_inM t_M t_M_ok n_M hown hK hP (hD I) hS 0 rfl rfl 9 (by decide) (hts _ hlink) (fun _ h => h) rfl (by decide +kernel) rfl rfl (Nat.le_of_ble_eq_true rfl) hdg (fun H1 l1 h1 _ h3 => kk H1 l1 h1 h3)
theorem wg_sM0 (hx : p.tables.exec = Jvm.exec) (hb : c.code = cc) (hK : va_K D wg_cl (wg_ty cJ cI) s) (hP : va_P D wg_cl (wg_WM cJ cI h0 ad I) H) (hD : ∀ J, va_D A (wg_WM cJ cI h0 ad J)) (hS : va_S A H0 H locs) {j x : Nat} (hj : j < 48) (hdg : decode cc pc = .ok (.lastore, 1)) (kk : ∀ (H1 : Heap) (locs1 : List Loc), va_P D wg_cl (wg_WM cJ cI h0 ad (wg_st I 0 j x)) H1 → va_S A H0 H1 locs1 → W p l e R s m args below meth c H1 locs1 cells slots Q (F0 m (pc + 1) ls rest)) : W p l e R s m args below meth c H locs cells slots Q (F0 m pc ls (.long (lN x) :: .int (nI j) :: .ref (ad 0) :: rest)) :=
  wg_lst hx hb hK hP (hD I) hS 1 (f := I 0) rfl hj (by decide) hdg (fun H1 l1 h1 h2 => kk H1 l1 h1 h2)
theorem wg_sM4 (hx : p.tables.exec = Jvm.exec) (hb : c.code = cc) (hK : va_K D wg_cl (wg_ty cJ cI) s) (hP : va_P D wg_cl (wg_WM cJ cI h0 ad I) H) (hD : ∀ J, va_D A (wg_WM cJ cI h0 ad J)) (hS : va_S A H0 H locs) {j x : Nat} (hj : j < 48) (hdg : decode cc pc = .ok (.iastore, 1)) (kk : ∀ (H1 : Heap) (locs1 : List Loc), va_P D wg_cl (wg_WM cJ cI h0 ad (wg_st I 4 j x)) H1 → va_S A H0 H1 locs1 → W p l e R s m args below meth c H1 locs1 cells slots Q (F0 m (pc + 1) ls rest)) : W p l e R s m args below meth c H locs cells slots Q (F0 m pc ls (.int (nI x) :: .int (nI j) :: .ref (ad 4) :: rest)) :=
  wg_ist hx hb hK hP (hD I) hS 2 (f := I 4) rfl hj (by decide) hdg (fun H1 l1 h1 h2 => kk H1 l1 h1 h2)
theorem wg_sM5 (hx : p.tables.exec = Jvm.exec) (hb : c.code = cc) (hK : va_K D wg_cl (wg_ty cJ cI) s) (hP : va_P D wg_cl (wg_WM cJ cI h0 ad I) H) (hD : ∀ J, va_D A (wg_WM cJ cI h0 ad J)) (hS : va_S A H0 H locs) {j x : Nat} (hj : j < 48) (hdg : decode cc pc = .ok (.iastore, 1)) (kk : ∀ (H1 : Heap) (locs1 : List Loc), va_P D wg_cl (wg_WM cJ cI h0 ad (wg_st I 5 j x)) H1 → va_S A H0 H1 locs1 → W p l e R s m args below meth c H1 locs1 cells slots Q (F0 m (pc + 1) ls rest)) : W p l e R s m args below meth c H locs cells slots Q (F0 m pc ls (.int (nI x) :: .int (nI j) :: .ref (ad 5) :: rest)) :=
  wg_ist hx hb hK hP (hD I) hS 3 (f := I 5) rfl hj (by decide) hdg (fun H1 l1 h1 h2 => kk H1 l1 h1 h2)
theorem wg_sM6 (hx : p.tables.exec = Jvm.exec) (hb : c.code = cc) (hK : va_K D wg_cl (wg_ty cJ cI) s) (hP : va_P D wg_cl (wg_WM cJ cI h0 ad I) H) (hD : ∀ J, va_D A (wg_WM cJ cI h0 ad J)) (hS : va_S A H0 H locs) {j x : Nat} (hj : j < 624) (hdg : decode cc pc = .ok (.iastore, 1)) (kk : ∀ (H1 : Heap) (locs1 : List Loc), va_P D wg_cl (wg_WM cJ cI h0 ad (wg_st I 6 j x)) H1 → va_S A H0 H1 locs1 → W p l e R s m args below meth c H1 locs1 cells slots Q (F0 m (pc + 1) ls rest)) : W p l e R s m args below meth c H locs cells slots Q (F0 m pc ls (.int (nI x) :: .int (nI j) :: .ref (ad 6) :: rest)) :=
  wg_ist hx hb hK hP (hD I) hS 4 (f := I 6) rfl hj (by decide) hdg (fun H1 l1 h1 h2 => kk H1 l1 h1 h2)
theorem wg_sM7 (hx : p.tables.exec = Jvm.exec) (hb : c.code = cc) (hK : va_K D wg_cl (wg_ty cJ cI) s) (hP : va_P D wg_cl (wg_WM cJ cI h0 ad I) H) (hD : ∀ J, va_D A (wg_WM cJ cI h0 ad J)) (hS : va_S A H0 H locs) {j x : Nat} (hj : j < 625) (hdg : decode cc pc = .ok (.iastore, 1)) (kk : ∀ (H1 : Heap) (locs1 : List Loc), va_P D wg_cl (wg_WM cJ cI h0 ad (wg_st I 7 j x)) H1 → va_S A H0 H1 locs1 → W p l e R s m args below meth c H1 locs1 cells slots Q (F0 m (pc + 1) ls rest)) : W p l e R s m args below meth c H locs cells slots Q (F0 m pc ls (.int (nI x) :: .int (nI j) :: .ref (ad 7) :: rest)) :=
  wg_ist hx hb hK hP (hD I) hS 5 (f := I 7) rfl hj (by decide) hdg (fun H1 l1 h1 h2 => kk H1 l1 h1 h2)
theorem wg_sM8 (hx : p.tables.exec = Jvm.exec) (hb : c.code = cc) (hK : va_K D wg_cl (wg_ty cJ cI) s) (hP : va_P D wg_cl (wg_WM cJ cI h0 ad I) H) (hD : ∀ J, va_D A (wg_WM cJ cI h0 ad J)) (hS : va_S A H0 H locs) {j x : Nat} (hj : j < 625) (hdg : decode cc pc = .ok (.iastore, 1)) (kk : ∀ (H1 : Heap) (locs1 : List Loc), va_P D wg_cl (wg_WM cJ cI h0 ad (wg_st I 8 j x)) H1 → va_S A H0 H1 locs1 → W p l e R s m args below meth c H1 locs1 cells slots Q (F0 m (pc + 1) ls rest)) : W p l e R s m args below meth c H locs cells slots Q (F0 m pc ls (.int (nI x) :: .int (nI j) :: .ref (ad 8) :: rest)) :=
  wg_ist hx hb hK hP (hD I) hS 6 (f := I 8) rfl hj (by decide) hdg (fun H1 l1 h1 h2 => kk H1 l1 h1 h2)
theorem wg_sM10 (hx : p.tables.exec = Jvm.exec) (hb : c.code = cc) (hK : va_K D wg_cl (wg_ty cJ cI) s) (hP : va_P D wg_cl (wg_WM cJ cI h0 ad I) H) (hD : ∀ J, va_D A (wg_WM cJ cI h0 ad J)) (hS : va_S A H0 H locs) {j x : Nat} (hj : j < 169) (hdg : decode cc pc = .ok (.iastore, 1)) (kk : ∀ (H1 : Heap) (locs1 : List Loc), va_P D wg_cl (wg_WM cJ cI h0 ad (wg_st I 10 j x)) H1 → va_S A H0 H1 locs1 → W p l e R s m args below meth c H1 locs1 cells slots Q (F0 m (pc + 1) ls rest)) : W p l e R s m args below meth c H locs cells slots Q (F0 m pc ls (.int (nI x) :: .int (nI j) :: .ref (ad 10) :: rest)) :=
  wg_ist hx hb hK hP (hD I) hS 7 (f := I 10) rfl hj (by decide) hdg (fun H1 l1 h1 h2 => kk H1 l1 h1 h2)
end ROWS
/-! What holds of the two objects between calls. -/
def wg_XI (I : wg_S) : Prop := I 3 0 ≤ 48 ∧ I 4 0 ≤ 1 ∧ I 8 0 ≤ 577 ∧ I 11 0 ≤ 48 ∧ (I 4 0 = 0 → I 8 0 = 0) ∧ (∀ k, k < 48 → I 0 k < 2 ^ 60) ∧ (∀ k, k < 48 → I 1 k ≤ 12) ∧ (∀ k, k < 48 → I 2 k ≤ 13) ∧ (∀ k, 0 < k → k < I 3 0 → 1 ≤ I 2 k) ∧ (∀ k, k < 577 → I 6 k < 48) ∧ (∀ k, k < 577 → I 7 k ≤ 12) ∧ (∀ k, k < 169 → I 12 k ≤ 24) ∧ (∀ k, k < 48 → I 13 k ≤ 24) ∧ (∀ k, k < 624 → I 5 k < 577)
def wg_MI (I : wg_S) : Prop := I 1 0 ≤ 48 ∧ I 2 0 ≤ 1 ∧ I 3 0 ≤ 48 ∧ I 9 0 ≤ 625 ∧ (∀ k, k < 48 → I 0 k < 2 ^ 60) ∧ (∀ k, k < 625 → I 7 k < 48) ∧ (∀ k, k < 625 → I 8 k ≤ 12)
def wg_kp (I u : wg_S) : Prop := u 3 0 = I 3 0 ∧ u 4 0 = I 4 0 ∧ ∀ k, u 0 k = I 0 k
def wg_km (I u : wg_S) : Prop := u 1 0 = I 1 0 ∧ u 2 0 = I 2 0 ∧ ∀ k, u 0 k = I 0 k
theorem wg_kp_r (I : wg_S) : wg_kp I I := ⟨rfl, rfl, fun _ => rfl⟩
theorem wg_km_r (I : wg_S) : wg_km I I := ⟨rfl, rfl, fun _ => rfl⟩
def wg_sh (a b k : Nat) : Prop := ∀ i, i < k → ¬ wg_lt a i = 0 ∧ wg_lt a i = wg_lt b i
/-- what add answers -/
def wg_AddR (se sz : Nat) (w : Nat → Nat) (n : Nat) (r : Int32) : Prop :=
  (¬ se = 0 ∧ r = -1) ∨ (se = 0 ∧ ¬ wg_ok n ∧ r = -2) ∨ (se = 0 ∧ wg_ok n ∧ 48 ≤ sz ∧ r = -3) ∨ (se = 0 ∧ wg_ok n ∧ sz < 48 ∧ 0 < sz ∧ n ≤ w (sz - 1) ∧ r = -4) ∨ (se = 0 ∧ wg_ok n ∧ sz < 48 ∧ (sz = 0 ∨ w (sz - 1) < n) ∧ r = 0)
theorem wg_AddR_one {se sz : Nat} {w w' : Nat → Nat} {n : Nat} {r r' : Int32} (hw : ∀ k, k < sz → w k = w' k) (h : wg_AddR se sz w n r) (h' : wg_AddR se sz w' n r') : r = r' := by
  rcases h with ⟨a, rfl⟩ | ⟨a, b, rfl⟩ | ⟨a, b, c, rfl⟩ | ⟨a, b, c, d, e, rfl⟩ | ⟨a, b, c, d, rfl⟩ <;> rcases h' with ⟨a', rfl⟩ | ⟨a', b', rfl⟩ | ⟨a', b', c', rfl⟩ | ⟨a', b', c', d', e', rfl⟩ | ⟨a', b', c', d', rfl⟩ <;> first | rfl | (exfalso; first | omega | exact b b' | exact b' b | (have := hw (sz - 1) (by omega); omega))
theorem wg_has1 {k : Int32} {n : Nat} (hb : n < 2 ^ 31) (h1 : ¬ k < 0) (h9 : ¬ nI n ≤ k) : ∃ j, j < n ∧ k = nI j := by
  obtain ⟨j, hj, rfl⟩ := nI_of h1
  rw [nI_leI hb hj] at h9
  exact ⟨j, by omega, rfl⟩
theorem wg_has0a {k : Int32} {n : Nat} (hb : n < 2 ^ 31) (h1 : k < 0) : ∀ j, j < n → ¬ k = nI j := by
  rintro j hj rfl
  exact nI_pos (by omega) h1
theorem wg_has0b {k : Int32} {n : Nat} (hb : n < 2 ^ 31) (h9 : nI n ≤ k) : ∀ j, j < n → ¬ k = nI j := by
  rintro j hj rfl
  rw [nI_leI hb (by omega)] at h9
  omega
theorem wg_st_b {I : wg_S} {k N B i v : Nat} (h : ∀ j, j < N → I k j ≤ B) (hv : v ≤ B) : ∀ j, j < N → wg_st I k i v k j ≤ B := by
  intro j hj
  by_cases q : j = i
  · rw [q, wg_st_s]; exact hv
  · rw [wg_st_n _ _ _ _ q]; exact h j hj
theorem wg_st_l {I : wg_S} {k N B i v : Nat} (h : ∀ j, j < N → I k j < B) (hv : v < B) : ∀ j, j < N → wg_st I k i v k j < B := by
  intro j hj
  by_cases q : j = i
  · rw [q, wg_st_s]; exact hv
  · rw [wg_st_n _ _ _ _ q]; exact h j hj
theorem wg_max {a b : Nat} (ha : a < 2 ^ 31) (hb : b < 2 ^ 31) : (if nI a < nI b then nI b else nI a) = nI (max a b) := by
  by_cases h : a < b
  · rw [if_pos ((nI_ltI ha hb).mpr h), Nat.max_eq_right (Nat.le_of_lt h)]
  · rw [if_neg (fun q => h ((nI_ltI ha hb).mp q)), Nat.max_eq_left (Nat.not_lt.mp h)]
theorem wg_bt_p {u v i j : Nat} (hi : 0 < i) (hj : 0 < j) : wg_bt u v i j = min (wg_bt u v (i - 1) (j - 1) + (if wg_lt u (i - 1) = wg_lt v (j - 1) then 0 else 1)) (min (wg_bt u v (i - 1) j + 1) (wg_bt u v i (j - 1) + 1)) := by
  obtain ⟨i, rfl⟩ : ∃ k, i = k + 1 := ⟨i - 1, by omega⟩
  obtain ⟨j, rfl⟩ : ∃ k, j = k + 1 := ⟨j - 1, by omega⟩
  rw [wg_bt_s]
  rfl
-- the class's invariant through its changes
theorem wg_XI_s {I u : wg_S} (h : wg_XI I) (ho : ∀ j, ¬ j = 9 → ¬ j = 10 → ¬ j = 11 → ¬ j = 12 → ¬ j = 13 → u j = I j) (h11 : u 11 0 ≤ 48) (h12 : ∀ k, k < 169 → u 12 k ≤ 24) (h13 : ∀ k, k < 48 → u 13 k ≤ 24) : wg_XI u := by
  obtain ⟨a1, a2, a3, a4, a5, a6, a7, a8, a9, b1, b2, b3, b4, b5⟩ := h
  have g : ∀ j, ¬ j = 9 → ¬ j = 10 → ¬ j = 11 → ¬ j = 12 → ¬ j = 13 → ∀ k, u j k = I j k := fun j q1 q2 q3 q4 q5 k => by rw [ho j q1 q2 q3 q4 q5]
  refine ⟨?_, ?_, ?_, h11, ?_, ?_, ?_, ?_, ?_, ?_, ?_, h12, h13, ?_⟩
  · rw [g 3 (by decide) (by decide) (by decide) (by decide) (by decide)]; exact a1
  · rw [g 4 (by decide) (by decide) (by decide) (by decide) (by decide)]; exact a2
  · rw [g 8 (by decide) (by decide) (by decide) (by decide) (by decide)]; exact a3
  · rw [g 4 (by decide) (by decide) (by decide) (by decide) (by decide), g 8 (by decide) (by decide) (by decide) (by decide) (by decide)]; exact a5
  · intro k hk; rw [g 0 (by decide) (by decide) (by decide) (by decide) (by decide)]; exact a6 k hk
  · intro k hk; rw [g 1 (by decide) (by decide) (by decide) (by decide) (by decide)]; exact a7 k hk
  · intro k hk; rw [g 2 (by decide) (by decide) (by decide) (by decide) (by decide)]; exact a8 k hk
  · intro k h0 hk; rw [g 3 (by decide) (by decide) (by decide) (by decide) (by decide)] at hk; rw [g 2 (by decide) (by decide) (by decide) (by decide) (by decide)]; exact a9 k h0 hk
  · intro k hk; rw [g 6 (by decide) (by decide) (by decide) (by decide) (by decide)]; exact b1 k hk
  · intro k hk; rw [g 7 (by decide) (by decide) (by decide) (by decide) (by decide)]; exact b2 k hk
  · intro k hk; rw [g 5 (by decide) (by decide) (by decide) (by decide) (by decide)]; exact b5 k hk
theorem wg_XI_f {I u : wg_S} (h : wg_XI I) (ho : ∀ j, ¬ j = 12 → ¬ j = 13 → u j = I j) (h12 : ∀ k, k < 169 → u 12 k ≤ 24) (h13 : ∀ k, k < 48 → u 13 k ≤ 24) : wg_XI u := wg_XI_s h (fun j _ _ _ q1 q2 => ho j q1 q2) (by rw [ho 11 (by decide) (by decide)]; exact h.2.2.2.1) h12 h13
theorem wg_XI_12 {I u : wg_S} (h : wg_XI I) (ho : ∀ j, ¬ j = 12 → u j = I j) (h12 : ∀ k, k < 169 → u 12 k ≤ 24) : wg_XI u := wg_XI_f h (fun j q _ => ho j q) h12 (by rw [ho 13 (by decide)]; exact h.2.2.2.2.2.2.2.2.2.2.2.2.1)
theorem wg_kp_s {I u : wg_S} (ho : ∀ j, ¬ j = 9 → ¬ j = 10 → ¬ j = 11 → ¬ j = 12 → ¬ j = 13 → u j = I j) : wg_kp I u := ⟨by rw [ho 3 (by decide) (by decide) (by decide) (by decide) (by decide)], by rw [ho 4 (by decide) (by decide) (by decide) (by decide) (by decide)], fun k => by rw [ho 0 (by decide) (by decide) (by decide) (by decide) (by decide)]⟩
theorem wg_kp_12 {I u : wg_S} (ho : ∀ j, ¬ j = 12 → u j = I j) : wg_kp I u := wg_kp_s (fun j _ _ _ q _ => ho j q)
theorem wg_XI_5 {I : wg_S} {i v : Nat} (h : wg_XI I) (hv : v < 577) : wg_XI (wg_st I 5 i v) := by
  obtain ⟨a1, a2, a3, a4, a5, a6, a7, a8, a9, b1, b2, b3, b4, b5⟩ := h
  exact ⟨a1, a2, a3, a4, a5, a6, a7, a8, a9, b1, b2, b3, b4, wg_st_l b5 hv⟩
theorem wg_kp_5 {I u : wg_S} {i v : Nat} (h : wg_kp I u) : wg_kp I (wg_st u 5 i v) := h
theorem wg_XI_mk {I : wg_S} {i k t : Nat} (h : wg_XI I) (hc : I 8 0 < 577) (hk : k < 48) (ht : t ≤ 12) (hs : I 4 0 = 1) : wg_XI (wg_st (wg_st (wg_st (wg_st I 6 (I 8 0) k) 7 (I 8 0) t) 8 0 (I 8 0 + 1)) 5 i (I 8 0)) := by
  obtain ⟨a1, a2, a3, a4, a5, a6, a7, a8, a9, b1, b2, b3, b4, b5⟩ := h
  exact ⟨a1, a2, (by show I 8 0 + 1 ≤ 577; omega), a4, (fun q => by have q : I 4 0 = 0 := q; omega), a6, a7, a8, a9, wg_st_l (k := 6) b1 hk, wg_st_b (k := 7) b2 ht, b3, b4, wg_st_l (k := 5) b5 hc⟩
theorem wg_kp_mk {I u : wg_S} {a b c d e f g i v : Nat} (h : wg_kp I u) : wg_kp I (wg_st (wg_st (wg_st (wg_st u 6 a b) 7 c d) 8 e f) 5 i v) := h
theorem wg_XI_4 {I : wg_S} (h : wg_XI I) : wg_XI (wg_st I 4 0 1) := by
  obtain ⟨a1, a2, a3, a4, a5, a6, a7, a8, a9, b1, b2, b3, b4, b5⟩ := h
  exact ⟨a1, (by show (1 : Nat) ≤ 1; omega), a3, a4, (fun q => absurd (show (1 : Nat) = 0 from q) (by decide)), a6, a7, a8, a9, b1, b2, b3, b4, b5⟩
theorem wg_XI_40 {I : wg_S} (h : wg_XI I) (hc : I 8 0 < 577) : wg_XI (wg_st (wg_st (wg_st (wg_st I 4 0 1) 6 (I 8 0) 0) 7 (I 8 0) 0) 8 0 (I 8 0 + 1)) := by
  obtain ⟨a1, a2, a3, a4, a5, a6, a7, a8, a9, b1, b2, b3, b4, b5⟩ := h
  exact ⟨a1, (by show (1 : Nat) ≤ 1; omega), (by show I 8 0 + 1 ≤ 577; omega), a4, (fun q => absurd (show (1 : Nat) = 0 from q) (by decide)), a6, a7, a8, a9, wg_st_l (k := 6) b1 (by omega), wg_st_b (k := 7) b2 (by omega), b3, b4, b5⟩
theorem wg_XI_add {I : wg_S} {n ln f : Nat} (h : wg_XI I) (h3 : I 3 0 < 48) (hn : n < 2 ^ 60) (hl : ln ≤ 12) (hf : f ≤ 13) (hf1 : 0 < I 3 0 → 1 ≤ f) : wg_XI (wg_st (wg_st (wg_st (wg_st I 0 (I 3 0) n) 1 (I 3 0) ln) 2 (I 3 0) f) 3 0 (I 3 0 + 1)) := by
  obtain ⟨a1, a2, a3, a4, a5, a6, a7, a8, a9, b1, b2, b3, b4, b5⟩ := h
  refine ⟨(by show I 3 0 + 1 ≤ 48; omega), a2, a3, a4, a5, wg_st_l (k := 0) a6 hn, wg_st_b (k := 1) a7 hl, wg_st_b (k := 2) a8 hf, ?_, b1, b2, b3, b4, b5⟩
  intro k h0 hk
  have hk : k < I 3 0 + 1 := hk
  show 1 ≤ wg_st I 2 (I 3 0) f 2 k
  by_cases q : k = I 3 0
  · rw [q, wg_st_s]; exact hf1 (by omega)
  · rw [wg_st_n _ _ _ _ q]; exact a9 k h0 (by omega)
theorem wg_XI_cl {I : wg_S} (h : wg_XI I) : wg_XI (wg_st (wg_st (wg_st (wg_st I 3 0 0) 4 0 0) 8 0 0) 11 0 0) := by
  obtain ⟨a1, a2, a3, a4, a5, a6, a7, a8, a9, b1, b2, b3, b4, b5⟩ := h
  exact ⟨(by show (0 : Nat) ≤ 48; omega), (by show (0 : Nat) ≤ 1; omega), (by show (0 : Nat) ≤ 577; omega), (by show (0 : Nat) ≤ 48; omega), (fun _ => rfl), a6, a7, a8, (fun k _ q => by have q : k < 0 := q; omega), b1, b2, b3, b4, b5⟩
-- the reference's
theorem wg_MI_mk {I : wg_S} {k n : Nat} (h : wg_MI I) (hc : I 9 0 < 625) (hk : k < 48) (hn : n ≤ 12) : wg_MI (wg_st (wg_st (wg_st I 7 (I 9 0) k) 8 (I 9 0) n) 9 0 (I 9 0 + 1)) := by
  obtain ⟨a1, a2, a3, a4, a5, a6, a7⟩ := h
  exact ⟨a1, a2, a3, (by show I 9 0 + 1 ≤ 625; omega), a5, wg_st_l (k := 7) a6 hk, wg_st_b (k := 8) a7 hn⟩
theorem wg_km_mk (I : wg_S) {k n a b c d : Nat} : wg_km I (wg_st (wg_st (wg_st I 7 a k) 8 b n) 9 c d) := ⟨rfl, rfl, fun _ => rfl⟩
theorem wg_MI_6 {I : wg_S} {i v : Nat} (h : wg_MI I) : wg_MI (wg_st I 6 i v) := h
theorem wg_MI_29 {I : wg_S} {a b : Nat} (h : wg_MI I) (ha : a ≤ 1) (hb : b ≤ 625) : wg_MI (wg_st (wg_st I 2 0 a) 9 0 b) := by
  obtain ⟨a1, a2, a3, a4, a5, a6, a7⟩ := h
  exact ⟨a1, ha, a3, hb, a5, a6, a7⟩
theorem wg_MI_add {I : wg_S} {n : Nat} (h : wg_MI I) (h1 : I 1 0 < 48) (hn : n < 2 ^ 60) : wg_MI (wg_st (wg_st I 0 (I 1 0) n) 1 0 (I 1 0 + 1)) := by
  obtain ⟨a1, a2, a3, a4, a5, a6, a7⟩ := h
  exact ⟨(by show I 1 0 + 1 ≤ 48; omega), a2, a3, a4, wg_st_l (k := 0) a5 hn, a6, a7⟩
theorem wg_MI_cl {I : wg_S} (h : wg_MI I) : wg_MI (wg_st (wg_st (wg_st (wg_st I 2 0 0) 1 0 0) 3 0 0) 9 0 0) := by
  obtain ⟨a1, a2, a3, a4, a5, a6, a7⟩ := h
  exact ⟨(by show (0 : Nat) ≤ 48; omega), (by show (0 : Nat) ≤ 1; omega), (by show (0 : Nat) ≤ 48; omega), (by show (0 : Nat) ≤ 625; omega), a5, a6, a7⟩
theorem wg_MI_s {I u : wg_S} (h : wg_MI I) (ho : ∀ j, ¬ j = 3 → ¬ j = 4 → ¬ j = 5 → ¬ j = 10 → u j = I j) (h3 : u 3 0 ≤ 48) : wg_MI u := by
  obtain ⟨a1, a2, a3, a4, a5, a6, a7⟩ := h
  refine ⟨?_, ?_, h3, ?_, ?_, ?_, ?_⟩
  · rw [ho 1 (by decide) (by decide) (by decide) (by decide)]; exact a1
  · rw [ho 2 (by decide) (by decide) (by decide) (by decide)]; exact a2
  · rw [ho 9 (by decide) (by decide) (by decide) (by decide)]; exact a4
  · rw [ho 0 (by decide) (by decide) (by decide) (by decide)]; exact a5
  · rw [ho 7 (by decide) (by decide) (by decide) (by decide)]; exact a6
  · rw [ho 8 (by decide) (by decide) (by decide) (by decide)]; exact a7
theorem wg_MI_10 {I u : wg_S} (h : wg_MI I) (ho : ∀ j, ¬ j = 10 → u j = I j) : wg_MI u := wg_MI_s h (fun j _ _ _ q => ho j q) (by rw [ho 3 (by decide)]; exact h.2.2.1)
theorem wg_km_s {I u : wg_S} (ho : ∀ j, ¬ j = 3 → ¬ j = 4 → ¬ j = 5 → ¬ j = 10 → u j = I j) : wg_km I u := ⟨by rw [ho 1 (by decide) (by decide) (by decide) (by decide)], by rw [ho 2 (by decide) (by decide) (by decide) (by decide)], fun k => by rw [ho 0 (by decide) (by decide) (by decide) (by decide)]⟩
theorem wg_km_10 {I u : wg_S} (ho : ∀ j, ¬ j = 10 → u j = I j) : wg_km I u := wg_km_s (fun j _ _ _ q => ho j q)
