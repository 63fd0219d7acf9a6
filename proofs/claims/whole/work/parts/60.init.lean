abbrev s0Ad (u1 u2 : Nat → Nat) (h sf q1 q2 : Nat) : Nat → Nat := fun k => if k = 0 then h else if k < 26 then u1 (k - 1) else if k < 51 then u2 (k - 26) else if k = 51 then sf else if k = 52 then q1 else q2
/-- a fresh object's words -/
abbrev J00 : Mm := fun k => if k = 0 then (fun _ => 0) else if k < 26 then mz0 (k - 1) else if k < 51 then mz0 (k - 26) else (fun _ => 0)
def rch' (κ : Nat) : Nat := match κ with | 2 => 8 | 3 => 3 | 4 => 2 | 5 => 8 | 6 => 8 | _ => 0
theorem cw_at {D : va_G} {cl : List vw_C} {H : Heap} {a κ : Nat} {cs : Nat → ClassId} {rf rf' : Nat → Nat} {x : Nat → Int32} (hκ : κ = 2 ∨ κ = 3 ∨ κ = 4 ∨ κ = 5 ∨ κ = 6 ∨ κ = 8 ∨ κ = 9) (h : ∀ d, 1 ≤ d → d ≤ rch' κ → rf d = rf' d) (hP : va_at D cl (a, cw cs κ rf x) H) : va_at D cl (a, cw cs κ rf' x) H := by
  rcases hκ with rfl | rfl | rfl | rfl | rfl | rfl | rfl
  · have e : cw cs 2 rf' x = cw cs 2 rf x := by simp only [cw, h 1 (by decide) (by decide), h 5 (by decide) (by decide), h 8 (by decide) (by decide)]
    rw [e]; exact hP
  · have e : cw cs 3 rf' x = cw cs 3 rf x := by simp only [cw, h 1 (by decide) (by decide), h 2 (by decide) (by decide), h 3 (by decide) (by decide)]
    rw [e]; exact hP
  · have e : cw cs 4 rf' x = cw cs 4 rf x := by simp only [cw, h 1 (by decide) (by decide), h 2 (by decide) (by decide)]
    rw [e]; exact hP
  · have h1 := P_cell (D := D) (cl := cl) (ws := [(a, rfA (fun i => some (rf (1 + i))) (cs 1) 8)]) (i0 := 0) (g := fun i => some (rf' (1 + i))) rfl (fun j hj => by rw [h (1 + j) (by omega) (by show 1 + j ≤ 8; omega)]) (H := H) (fun k q hk => by
      have h0 : k = 0 := by
        have := (List.getElem?_eq_some_iff.mp hk).1
        simp at this; exact this
      subst h0
      cases hk
      exact hP)
    exact h1 0 _ rfl
  · have e : cw cs 6 rf' x = cw cs 6 rf x := by simp only [cw, h 8 (by decide) (by decide)]
    rw [e]; exact hP
  · exact hP
  · exact hP
theorem kzs_k : ∀ j, j < 25 → (kzs.getD j 0 = 2 ∨ kzs.getD j 0 = 3 ∨ kzs.getD j 0 = 4 ∨ kzs.getD j 0 = 5 ∨ kzs.getD j 0 = 6 ∨ kzs.getD j 0 = 8 ∨ kzs.getD j 0 = 9) ∧ j + rch' (kzs.getD j 0) < 25 ∧ kC.getD (1 + j) 0 = kzs.getD j 0 ∧ kC.getD (26 + j) 0 = kzs.getD j 0 := by decide +kernel
abbrev s0L (cs : Nat → ClassId) (u1 u2 : Nat → Nat) (h sf q1 q2 : Nat) : va_W := (([(h, .inr (5, [.ref (u1 0), .ref (u2 0), .ref sf]))] ++ gw kzs cs u1 mz0) ++ gw kzs cs u2 mz0) ++ X2_init_W cs sf (q1, q2)
theorem s0_key {D : va_G} {cs : Nat → ClassId} {u1 u2 : Nat → Nat} {h sf q1 q2 : Nat} : ∀ k, k < 54 → ∃ e, (s0L cs u1 u2 h sf q1 q2)[k]? = some (s0Ad u1 u2 h sf q1 q2 k, e) ∧ ∀ H, va_at D vwCl (s0Ad u1 u2 h sf q1 q2 k, e) H → va_at D vwCl (s0Ad u1 u2 h sf q1 q2 k, cw cs (kC.getD k 0) (fun d => s0Ad u1 u2 h sf q1 q2 (k + d)) (J00 k)) H := by
  intro k hk
  have l1 : ([(h, .inr (5, [.ref (u1 0), .ref (u2 0), .ref sf]))] ++ gw kzs cs u1 mz0 : va_W).length = 26 := by rw [List.length_append, gw_len]; rfl
  have l2 : (([(h, .inr (5, [.ref (u1 0), .ref (u2 0), .ref sf]))] ++ gw kzs cs u1 mz0) ++ gw kzs cs u2 mz0 : va_W).length = 51 := by rw [List.length_append, l1, gw_len]; rfl
  rcases (show k = 0 ∨ (∃ j, j < 25 ∧ k = 1 + j) ∨ (∃ j, j < 25 ∧ k = 26 + j) ∨ k = 51 ∨ k = 52 ∨ k = 53 from by
    by_cases h1 : k = 0
    · exact Or.inl h1
    · by_cases h2 : k < 26
      · exact Or.inr (Or.inl ⟨k - 1, by omega, by omega⟩)
      · by_cases h3 : k < 51
        · exact Or.inr (Or.inr (Or.inl ⟨k - 26, by omega, by omega⟩))
        · omega) with rfl | ⟨j, hj, rfl⟩ | ⟨j, hj, rfl⟩ | rfl | rfl | rfl
  · exact ⟨_, rfl, fun H y => y⟩
  · obtain ⟨k1, k2, k3, -⟩ := kzs_k j hj
    have ea : s0Ad u1 u2 h sf q1 q2 (1 + j) = u1 j := by simp only [s0Ad]; rw [if_neg (by omega), if_pos (by omega), Nat.add_sub_cancel_left]
    have ej : J00 (1 + j) = mz0 j := by simp only [J00]; rw [if_neg (by omega), if_pos (by omega), Nat.add_sub_cancel_left]
    refine ⟨cw cs (kzs.getD j 0) (fun d => u1 (j + d)) (mz0 j), ?_, fun H y => ?_⟩
    · rw [ea]
      exact app_lt (app_lt (app_rt (L := [(h, .inr (5, [.ref (u1 0), .ref (u2 0), .ref sf]))]) (gw_get (K := kzs) (k := j) hj)))
    · rw [k3, ej]
      refine cw_at k1 (fun d h1 h2 => ?_) y
      have h3 : j + d < 25 := by omega
      show u1 (j + d) = s0Ad u1 u2 h sf q1 q2 (1 + j + d)
      simp only [s0Ad]
      rw [if_neg (by omega), if_pos (by omega), show 1 + j + d - 1 = j + d from by omega]
  · obtain ⟨k1, k2, -, k3⟩ := kzs_k j hj
    have ea : s0Ad u1 u2 h sf q1 q2 (26 + j) = u2 j := by simp only [s0Ad]; rw [if_neg (by omega), if_neg (by omega), if_pos (by omega), Nat.add_sub_cancel_left]
    have ej : J00 (26 + j) = mz0 j := by simp only [J00]; rw [if_neg (by omega), if_neg (by omega), if_pos (by omega), Nat.add_sub_cancel_left]
    refine ⟨cw cs (kzs.getD j 0) (fun d => u2 (j + d)) (mz0 j), ?_, fun H y => ?_⟩
    · rw [ea]
      have := app_rt (L := [(h, .inr (5, [.ref (u1 0), .ref (u2 0), .ref sf]))] ++ gw kzs cs u1 mz0) (gw_get (K := kzs) (cs := cs) (ad := u2) (I := mz0) (k := j) hj)
      rw [l1] at this
      exact app_lt this
    · rw [k3, ej]
      refine cw_at k1 (fun d h1 h2 => ?_) y
      have h3 : j + d < 25 := by omega
      show u2 (j + d) = s0Ad u1 u2 h sf q1 q2 (26 + j + d)
      simp only [s0Ad]
      rw [if_neg (by omega), if_neg (by omega), if_pos (by omega), show 26 + j + d - 26 = j + d from by omega]
  · have := app_rt (L := ([(h, .inr (5, [.ref (u1 0), .ref (u2 0), .ref sf]))] ++ gw kzs cs u1 mz0) ++ gw kzs cs u2 mz0) (E := X2_init_W cs sf (q1, q2)) (k := 0) rfl
    rw [l2] at this
    exact ⟨_, this, fun H y => y⟩
  · have := app_rt (L := ([(h, .inr (5, [.ref (u1 0), .ref (u2 0), .ref sf]))] ++ gw kzs cs u1 mz0) ++ gw kzs cs u2 mz0) (E := X2_init_W cs sf (q1, q2)) (k := 1) rfl
    rw [l2] at this
    exact ⟨_, this, fun H y => y⟩
  · have := app_rt (L := ([(h, .inr (5, [.ref (u1 0), .ref (u2 0), .ref sf]))] ++ gw kzs cs u1 mz0) ++ gw kzs cs u2 mz0) (E := X2_init_W cs sf (q1, q2)) (k := 2) rfl
    rw [l2] at this
    exact ⟨_, this, fun H y => y⟩
theorem s0_P {D : va_G} {cs : Nat → ClassId} {u1 u2 : Nat → Nat} {h sf q1 q2 : Nat} {H : Heap} (hP : va_P D vwCl (s0L cs u1 u2 h sf q1 q2) H) : va_P D vwCl (gw kC cs (s0Ad u1 u2 h sf q1 q2) J00) H := by
  intro k q hk
  have hk' : k < kC.length := (gw_inv hk).1
  rw [gw_get hk'] at hk
  cases hk
  obtain ⟨e, h1, h2⟩ := s0_key (D := D) (cs := cs) (u1 := u1) (u2 := u2) (h := h) (sf := sf) (q1 := q1) (q2 := q2) k hk'
  exact h2 H (hP k _ h1)
theorem s0_D {cs : Nat → ClassId} {u1 u2 : Nat → Nat} {h sf q1 q2 : Nat} {A : Nat → Prop} (D : va_G) (hD : va_D A (s0L cs u1 u2 h sf q1 q2)) : va_D A (gw kC cs (s0Ad u1 u2 h sf q1 q2) J00) := by
  refine ⟨fun i j p q hp hq e => ?_, fun k q hk => ?_⟩
  · obtain ⟨i1, i2⟩ := gw_inv hp
    obtain ⟨j1, j2⟩ := gw_inv hq
    obtain ⟨e1, h1, -⟩ := s0_key (D := D) (cs := cs) (u1 := u1) (u2 := u2) (h := h) (sf := sf) (q1 := q1) (q2 := q2) i i1
    obtain ⟨e2, h2, -⟩ := s0_key (D := D) (cs := cs) (u1 := u1) (u2 := u2) (h := h) (sf := sf) (q1 := q1) (q2 := q2) j j1
    exact hD.1 i j _ _ h1 h2 (i2.symm.trans (e.trans j2))
  · obtain ⟨k1, k2⟩ := gw_inv hk
    obtain ⟨e1, h1, -⟩ := s0_key (D := D) (cs := cs) (u1 := u1) (u2 := u2) (h := h) (sf := sf) (q1 := q1) (q2 := q2) k k1
    rw [k2]
    exact hD.2 k _ h1
set_option maxHeartbeats 4000000 in
set_option maxRecDepth 100000 in
theorem c_X5_init (l : Launch) (D : va_G) (cs : Nat → ClassId) (h sz : Nat) : MetC AOX l yX5_init wsX5_init ({ frames := 3, cells := 53, slots := 3631, locals := 90 }) cs D h (.inr (5, [.null, .null, .null])) sz (fun u : Nat → Nat => u 0 = h) (fun u => gw kC cs u J00) 53 3631 := by
  refine l_met (X := AOX) (cc := cX5_init) (maxL := 1) (ret := none) (by decide) rfl (Nat.le_of_ble_eq_true rfl) ?_
  intro pg e s m args below meth c ls hx hb hr hml hts hown hmn hlocks hsz hP hD hK hN hS hA hl hAO
  have hown : s.vm.findClass RX5 = some m.cls := hown
  have hmn : meth.name = "<init>" := hmn
  have hl : lv_has ls 1 [(0, .ref h)] := hl
  refine lv_aload_n hx hb dX5_init_0 rfl (lv_at hl 0 rfl) ?_
  refine W.objInit hx hb hown (hts _ (List.mem_of_getElem? (i := 1) rfl)) (hts _ (List.mem_of_getElem? (i := 2) rfl)) (hts _ (List.mem_of_getElem? (i := 3) rfl)) rfl (by rw [hml]; exact hl.1) rfl dX5_init_1 (Nat.le_of_ble_eq_true rfl) (Nat.le_of_ble_eq_true rfl) ?_
  refine lv_aload_n hx hb dX5_init_4 rfl (lv_at hl 0 rfl) ?_
  refine va_new (ci := 0) (fs := [.null, .null, .null, .int 0, .int 0, .int 0, .int 0]) (C := RX0) (T := TX0) (N := 7) hx hb hts (fun _ h => List.mem_cons_of_mem _ (List.mem_append_left _ (List.mem_append_left _ (List.mem_append_left _ (List.mem_append_left _ (List.mem_append_left _ (List.mem_append_right _ h))))))) tyX0 tyX0_ok hown (hts _ (List.mem_of_getElem? (i := 4) rfl)) (hts _ (List.mem_of_getElem? (i := 5) rfl)) (hts _ (List.mem_of_getElem? (i := 6) rfl)) hK hP hD hS hA rfl (fun j hj => by rcases (show j = 0 ∨ j = 1 ∨ j = 2 ∨ j = 3 ∨ j = 4 ∨ j = 5 ∨ j = 6 from by omega) with rfl | rfl | rfl | rfl | rfl | rfl | rfl <;> rfl) (Nat.le_of_ble_eq_true rfl) (Nat.le_of_ble_eq_true rfl) dX5_init_5 (fun m1 H hP hD hS => ?_)
  refine lv_dup hx hb dX5_init_8 rfl ?_
  refine r_ctor (L := [(h, (.inr (5, [.null, .null, .null])))]) (Wf := fun u => gw kzs cs u mz0) (post := fun u : Nat → Nat => u 0 = m1) hP hD hS hA (va_runI (As := []) (rest := [.ref m1, .ref h]) ⟨hx, hb, hml, hown, hts⟩ (c_X0_init l D cs m1 H.size) (cwI 0 hts gX5_init_X0_init rfl rfl rfl (hts _ (List.mem_of_getElem? (i := 6) rfl)) (hts _ (List.mem_of_getElem? (i := 13) rfl)) (hts _ (List.mem_of_getElem? (i := 14) rfl)) rfl (by decide +kernel) ⟨Nat.le_of_ble_eq_true rfl, Nat.le_of_ble_eq_true rfl⟩) (l_preS (X := AOX) (fun _ _ h3 h4 => va_AO.moved h3 h4) (P_right (w1 := [(h, (.inr (5, [.null, .null, .null])))]) hP) (D_right (w1 := [(h, (.inr (5, [.null, .null, .null])))]) hD) hK hN hAO) rfl rfl hl.1 rfl (lv_room (Nat.le_of_ble_eq_true rfl)) dX5_init_9 ⟨Nat.le_of_ble_eq_true rfl, Nat.le_of_ble_eq_true rfl⟩) (fun u_m1 H locs hu_m1 hP hD hS => ?_)
  refine va_putF (ci := 5) (v := .ref m1) (ty := .object "SnowMaze$Maze") (C := RX5) (T := TX5) (N := 3) hx hb hts (fun _ h => List.mem_cons_of_mem _ (List.mem_append_left _ (List.mem_append_left _ (List.mem_append_left _ (List.mem_append_left _ (List.mem_append_right _ h)))))) tyX5 tyX5_ok nmX5 hown hK hP hD hS 0 rfl rfl 0 (by decide) (hts _ (List.mem_of_getElem? (i := 7) rfl)) (fun _ h9 => h9) rfl hmn rfl (tyX5_ok 0 (by decide)) rfl rfl (Nat.le_of_ble_eq_true rfl) dX5_init_12 (fun H locs hP hD hS => ?_)
  have hP : va_P D vwCl ([(h, .inr (5, [.ref m1, .null, .null]))] ++ gw kzs cs u_m1 mz0) H := hP
  have hD : va_D (va_A [(h, (.inr (5, [.null, .null, .null])))] sz) ([(h, .inr (5, [.ref m1, .null, .null]))] ++ gw kzs cs u_m1 mz0) := hD
  refine lv_aload_n hx hb dX5_init_15 rfl (lv_at hl 0 rfl) ?_
  refine va_new (ci := 0) (fs := [.null, .null, .null, .int 0, .int 0, .int 0, .int 0]) (C := RX0) (T := TX0) (N := 7) hx hb hts (fun _ h => List.mem_cons_of_mem _ (List.mem_append_left _ (List.mem_append_left _ (List.mem_append_left _ (List.mem_append_left _ (List.mem_append_left _ (List.mem_append_right _ h))))))) tyX0 tyX0_ok hown (hts _ (List.mem_of_getElem? (i := 4) rfl)) (hts _ (List.mem_of_getElem? (i := 5) rfl)) (hts _ (List.mem_of_getElem? (i := 6) rfl)) hK hP hD hS hA rfl (fun j hj => by rcases (show j = 0 ∨ j = 1 ∨ j = 2 ∨ j = 3 ∨ j = 4 ∨ j = 5 ∨ j = 6 from by omega) with rfl | rfl | rfl | rfl | rfl | rfl | rfl <;> rfl) (Nat.le_of_ble_eq_true rfl) (Nat.le_of_ble_eq_true rfl) dX5_init_16 (fun m2 H hP hD hS => ?_)
  refine lv_dup hx hb dX5_init_19 rfl ?_
  refine r_ctor (L := [(h, .inr (5, [.ref m1, .null, .null]))] ++ gw kzs cs u_m1 mz0) (Wf := fun u => gw kzs cs u mz0) (post := fun u : Nat → Nat => u 0 = m2) hP hD hS hA (va_runI (As := []) (rest := [.ref m2, .ref h]) ⟨hx, hb, hml, hown, hts⟩ (c_X0_init l D cs m2 H.size) (cwI 0 hts gX5_init_X0_init rfl rfl rfl (hts _ (List.mem_of_getElem? (i := 6) rfl)) (hts _ (List.mem_of_getElem? (i := 13) rfl)) (hts _ (List.mem_of_getElem? (i := 14) rfl)) rfl (by decide +kernel) ⟨Nat.le_of_ble_eq_true rfl, Nat.le_of_ble_eq_true rfl⟩) (l_preS (X := AOX) (fun _ _ h3 h4 => va_AO.moved h3 h4) (P_right (w1 := [(h, .inr (5, [.ref m1, .null, .null]))] ++ gw kzs cs u_m1 mz0) hP) (D_right (w1 := [(h, .inr (5, [.ref m1, .null, .null]))] ++ gw kzs cs u_m1 mz0) hD) hK hN hAO) rfl rfl hl.1 rfl (lv_room (Nat.le_of_ble_eq_true rfl)) dX5_init_20 ⟨Nat.le_of_ble_eq_true rfl, Nat.le_of_ble_eq_true rfl⟩) (fun u_m2 H locs hu_m2 hP hD hS => ?_)
  refine va_putF (ci := 5) (v := .ref m2) (ty := .object "SnowMaze$Maze") (C := RX5) (T := TX5) (N := 3) hx hb hts (fun _ h => List.mem_cons_of_mem _ (List.mem_append_left _ (List.mem_append_left _ (List.mem_append_left _ (List.mem_append_left _ (List.mem_append_right _ h)))))) tyX5 tyX5_ok nmX5 hown hK hP hD hS 0 rfl rfl 1 (by decide) (hts _ (List.mem_of_getElem? (i := 8) rfl)) (fun _ h9 => h9) rfl hmn rfl (tyX5_ok 1 (by decide)) rfl rfl (Nat.le_of_ble_eq_true rfl) dX5_init_23 (fun H locs hP hD hS => ?_)
  have hP : va_P D vwCl (([(h, .inr (5, [.ref m1, .ref m2, .null]))] ++ gw kzs cs u_m1 mz0) ++ gw kzs cs u_m2 mz0) H := hP
  have hD : va_D (va_A [(h, (.inr (5, [.null, .null, .null])))] sz) (([(h, .inr (5, [.ref m1, .ref m2, .null]))] ++ gw kzs cs u_m1 mz0) ++ gw kzs cs u_m2 mz0) := hD
  refine lv_aload_n hx hb dX5_init_26 rfl (lv_at hl 0 rfl) ?_
  refine va_new (ci := 2) (fs := [.null, .null, .int 0]) (C := RX2) (T := TX2) (N := 3) hx hb hts (fun _ h => List.mem_cons_of_mem _ (List.mem_append_left _ (List.mem_append_left _ (List.mem_append_left _ (List.mem_append_right _ h))))) tyX2 tyX2_ok hown (hts _ (List.mem_of_getElem? (i := 9) rfl)) (hts _ (List.mem_of_getElem? (i := 10) rfl)) (hts _ (List.mem_of_getElem? (i := 11) rfl)) hK hP hD hS hA rfl (fun j hj => by rcases (show j = 0 ∨ j = 1 ∨ j = 2 from by omega) with rfl | rfl | rfl <;> rfl) (Nat.le_of_ble_eq_true rfl) (Nat.le_of_ble_eq_true rfl) dX5_init_27 (fun sf H hP hD hS => ?_)
  refine lv_dup hx hb dX5_init_30 rfl ?_
  refine r_ctor (L := ([(h, .inr (5, [.ref m1, .ref m2, .null]))] ++ gw kzs cs u_m1 mz0) ++ gw kzs cs u_m2 mz0) (Wf := X2_init_W cs sf) (post := fun _ : Nat × Nat => True) hP hD hS hA (va_runIN (As := []) (rest := [.ref sf, .ref h]) ⟨hx, hb, hml, hown, hts⟩ (c_X2_init l D cs sf H.size) ⟨va_cnB 0 hts gX5_init_X2_init_n21 rfl rfl rfl (nwv21 hN) (hts _ (List.mem_of_getElem? (i := 11) rfl)) (by decide +kernel) ⟨Nat.le_of_ble_eq_true rfl, Nat.le_of_ble_eq_true rfl⟩, rfl, (hts _ (List.mem_of_getElem? (i := 52) rfl))⟩ (l_preS (X := TrX) (fun _ _ _ h => h) (P_right (w1 := ([(h, .inr (5, [.ref m1, .ref m2, .null]))] ++ gw kzs cs u_m1 mz0) ++ gw kzs cs u_m2 mz0) hP) (D_right (w1 := ([(h, .inr (5, [.ref m1, .ref m2, .null]))] ++ gw kzs cs u_m1 mz0) ++ gw kzs cs u_m2 mz0) hD) hK hN trivial) rfl rfl hl.1 rfl (lv_room (Nat.le_of_ble_eq_true rfl)) dX5_init_31 ⟨Nat.le_of_ble_eq_true rfl, Nat.le_of_ble_eq_true rfl⟩) (fun u_s H locs _ hP hD hS => ?_)
  obtain ⟨q1, q2⟩ := u_s
  refine va_putF (ci := 5) (v := .ref sf) (ty := .object "SnowMaze$Shaft") (C := RX5) (T := TX5) (N := 3) hx hb hts (fun _ h => List.mem_cons_of_mem _ (List.mem_append_left _ (List.mem_append_left _ (List.mem_append_left _ (List.mem_append_left _ (List.mem_append_right _ h)))))) tyX5 tyX5_ok nmX5 hown hK hP hD hS 0 rfl rfl 2 (by decide) (hts _ (List.mem_of_getElem? (i := 12) rfl)) (fun _ h9 => h9) rfl hmn rfl (tyX5_ok 2 (by decide)) rfl rfl (Nat.le_of_ble_eq_true rfl) dX5_init_34 (fun H locs hP hD hS => ?_)
  have hP : va_P D vwCl ((([(h, .inr (5, [.ref m1, .ref m2, .ref sf]))] ++ gw kzs cs u_m1 mz0) ++ gw kzs cs u_m2 mz0) ++ X2_init_W cs sf (q1, q2)) H := hP
  have hD : va_D (va_A [(h, (.inr (5, [.null, .null, .null])))] sz) ((([(h, .inr (5, [.ref m1, .ref m2, .ref sf]))] ++ gw kzs cs u_m1 mz0) ++ gw kzs cs u_m2 mz0) ++ X2_init_W cs sf (q1, q2)) := hD
  rw [← hu_m1, ← hu_m2] at hP
  have hD' : va_D (va_A [(h, (.inr (5, [.null, .null, .null])))] sz) (s0L cs u_m1 u_m2 h sf q1 q2) := D_addr (ws := (([(h, .inr (5, [.ref m1, .ref m2, .ref sf]))] ++ gw kzs cs u_m1 mz0) ++ gw kzs cs u_m2 mz0) ++ X2_init_W cs sf (q1, q2)) (by simp) hD
  exact c_vret (Wf := fun u => gw kC cs u J00) (s0Ad u_m1 u_m2 h sf q1 q2) hx hb hr hlocks (s0_P hP) (s0_D D hD') hS rfl dX5_init_37
