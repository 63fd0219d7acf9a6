set_option maxHeartbeats 4000000 in
set_option maxRecDepth 100000 in
theorem c_X6_caves (l : Launch) (D : va_G) (cs : Nat → ClassId) (ad : Nat → Nat) (I : Mm) (sz : Nat) (k : Nat) (hk : kM.getD k 0 = 10) (a : Int32) (z : Nat) (J : Mm) (N : Nat) (hRl : Rl z J k I N) (hIV : IV J z N) : MetI l yX6_caves wsX6_caves ({ frames := 3, cells := 0, slots := 0, locals := 73 }) kM cs D ad I sz [.ref (ad k), .int a] (fun r u => Po z k J N (thZ_in a 2 1) (cavesF J z N a) r u) 0 0 := by
  refine g_met (cc := cX6_caves) (maxL := 2) (ret := (some .int)) (by decide) rfl (Nat.le_of_ble_eq_true rfl) ?_
  intro pg e s m args below meth c ls hx hb hr hml hts hown hlocks hsz hP hD hK hN hS hA hl
  have hown : s.vm.findClass RX6 = some m.cls := hown
  have hl : lv_has ls 2 [(0, .ref (ad k)), (1, .int a)] := hl
  have hN8 := hIV.1.2.1
  refine lv_aload_n hx hb dX6_caves_0 rfl (lv_at hl 0 rfl) ?_
  refine lv_iconst (v := nI 0) hx hb dX6_caves_1 (by decide) ?_
  refine g_put (κ := 10) (ci := 6) (v := nI 0) (ty := .int) (C := RX6) (T := TX6) (N := 8) hx hb hts hown hK hP hD hS (k := k) hk (by decide) rfl (fun _ h => List.mem_cons_of_mem _ (List.mem_append_right _ h)) tyX6 tyX6_ok nmX6 rfl 0 (by decide) (hts _ (List.mem_of_getElem? (i := 1) rfl)) (fun _ h9 => h9) rfl (by decide +kernel) rfl rfl (Nat.le_of_ble_eq_true rfl) rfl dX6_caves_2 (fun u1 H locs hu1 hP hD hS => ?_)
  have hR1 : Rl z J k u1 N := by rw [hu1]; exact hRl.th _
  have hT1 : u1 k 0 = nI 0 := by rw [hu1]; exact wr_ss _ _ _ _
  skip
  refine lv_iload_n hx hb dX6_caves_5 rfl (lv_at hl 1 rfl) ?_
  refine lv_iconst (v := nI 0) hx hb dX6_caves_6 (by decide) ?_
  refine lv_iconst (v := nI 2) hx hb dX6_caves_7 (by decide) ?_
  refine g_callF (F := f_X6_isIn a (nI 0) (nI 2)) hD hS hA (va_runS (As := [.int a, .int (nI 0), .int (nI 2)]) (rest := []) ⟨hx, hb, hml, hown, hts⟩ (c_X6_isIn l D cs ad u1 H.size a (nI 0) (nI 2)) (va_cwS 3 hts gX6_caves_X6_isIn rfl rfl rfl (by decide +kernel) ⟨Nat.le_of_ble_eq_true rfl, Nat.le_of_ble_eq_true rfl⟩) (g_preS hP hD hK hN) rfl rfl hl.1 rfl (lv_room (Nat.le_of_ble_eq_true rfl)) dX6_caves_8 ⟨Nat.le_of_ble_eq_true rfl, Nat.le_of_ble_eq_true rfl⟩) (fun H locs hP hD hS => ?_)
  refine lv_if_eq (tgt := 22) hx hb dX6_caves_11 (by decide) (fun c_2 => ?_) (fun c_2 => ?_)
  · skip
    refine lv_aload_n hx hb dX6_caves_22 rfl (lv_at hl 0 rfl) ?_
    refine lv_iconst (v := nI 1) hx hb dX6_caves_23 (by decide) ?_
    refine g_callFM (F := f_X6_fail u1 k (nI 1)) (M := m_X6_fail u1 k (nI 1)) hD hS hA (va_runV (As := [.int (nI 1)]) (rest := []) ⟨hx, hb, hml, hown, hts⟩ (c_X6_fail l D cs ad u1 H.size k hk (nI 1)) (cwV 1 hts gX6_caves_X6_fail rfl rfl rfl (by decide +kernel) ⟨Nat.le_of_ble_eq_true rfl, Nat.le_of_ble_eq_true rfl⟩) (g_preV hP hD hK hN (k := k) hk (by decide) rfl rfl rfl rfl) rfl rfl hl.1 rfl (lv_room (Nat.le_of_ble_eq_true rfl)) dX6_caves_24 ⟨Nat.le_of_ble_eq_true rfl, Nat.le_of_ble_eq_true rfl⟩) (fun u3 H locs hu3 hP hD hS => ?_)
    exact g_iret (v := f_X6_fail u1 k (nI 1)) hx hb hr hlocks rfl hP hD hS (Po.fail hR1 hu3 (in_z0 c_2) (by decide)) dX6_caves_27
  · skip
    refine lv_aload_n hx hb dX6_caves_14 rfl (lv_at hl 0 rfl) ?_
    refine lv_iload_n hx hb dX6_caves_15 rfl (lv_at hl 1 rfl) ?_
    have hn2 := (in_n (n := 2) (by decide) c_2).2
    have hn_a := in_n (n := 2) (by decide) c_2
    refine lv_topi (fun y9 ey9 => ?_)
    obtain rfl := ey9.trans hn_a.1
    refine g_calli hD hS hA (va_runV (As := [.int (nI a.toNatClampNeg)]) (rest := []) ⟨hx, hb, hml, hown, hts⟩ (c_X6_cavesOf l D cs ad u1 H.size k hk a.toNatClampNeg (by omega) z J N hR1 hIV.1) (cwV 1 hts gX6_caves_X6_cavesOf rfl rfl rfl (by decide +kernel) ⟨Nat.le_of_ble_eq_true rfl, Nat.le_of_ble_eq_true rfl⟩) (g_preV hP hD hK hN (k := k) hk (by decide) rfl rfl rfl rfl) rfl rfl hl.1 rfl (lv_room (Nat.le_of_ble_eq_true rfl)) dX6_caves_16 ⟨Nat.le_of_ble_eq_true rfl, Nat.le_of_ble_eq_true rfl⟩) (fun ru4 u4 H locs hu4 hP hD hS => ?_)
    obtain ⟨hu4, hru4⟩ := hu4
    rw [hru4]
    refine lv_goto (tgt := 27) hx hb dX6_caves_19 (by decide) ?_
    exact g_iret (v := nI (csN (opn J z) (frC J z) (plC J z) N a.toNatClampNeg 256)) hx hb hr hlocks rfl hP hD hS (Po.ok (hR1.eqw hu4) ((congrFun (hu4 k (by omega)) 0).trans hT1) (in_z1 c_2) (by rw [caves_eq hIV (by omega), ← (in_n (n := 2) (by decide) c_2).1])) dX6_caves_27

set_option maxHeartbeats 4000000 in
set_option maxRecDepth 100000 in
theorem c_X6_without (l : Launch) (D : va_G) (cs : Nat → ClassId) (ad : Nat → Nat) (I : Mm) (sz : Nat) (k : Nat) (hk : kM.getD k 0 = 10) (a : Int32) (b : Int32) (z : Nat) (J : Mm) (N : Nat) (hRl : Rl z J k I N) (hIV : IV J z N) : MetI l yX6_without wsX6_without ({ frames := 3, cells := 0, slots := 0, locals := 73 }) kM cs D ad I sz [.ref (ad k), .int a, .int b] (fun r u => Po z k J N (th_X5_placeOf a b) (withoutF J z (pl a b)) r u) 0 0 := by
  refine g_met (cc := cX6_without) (maxL := 5) (ret := (some .int)) (by decide) rfl (Nat.le_of_ble_eq_true rfl) ?_
  intro pg e s m args below meth c ls hx hb hr hml hts hown hlocks hsz hP hD hK hN hS hA hl
  have hown : s.vm.findClass RX6 = some m.cls := hown
  have hl : lv_has ls 5 [(0, .ref (ad k)), (1, .int a), (2, .int b)] := hl
  have hN8 := hIV.1.2.1
  refine lv_aload_n hx hb dX6_without_0 rfl (lv_at hl 0 rfl) ?_
  refine lv_iconst (v := nI 0) hx hb dX6_without_1 (by decide) ?_
  refine g_put (κ := 10) (ci := 6) (v := nI 0) (ty := .int) (C := RX6) (T := TX6) (N := 8) hx hb hts hown hK hP hD hS (k := k) hk (by decide) rfl (fun _ h => List.mem_cons_of_mem _ (List.mem_append_right _ h)) tyX6 tyX6_ok nmX6 rfl 0 (by decide) (hts _ (List.mem_of_getElem? (i := 1) rfl)) (fun _ h9 => h9) rfl (by decide +kernel) rfl rfl (Nat.le_of_ble_eq_true rfl) rfl dX6_without_2 (fun u1 H locs hu1 hP hD hS => ?_)
  have hR1 : Rl z J k u1 N := by rw [hu1]; exact hRl.th _
  have hT1 : u1 k 0 = nI 0 := by rw [hu1]; exact wr_ss _ _ _ _
  skip
  refine lv_iload_n hx hb dX6_without_5 rfl (lv_at hl 1 rfl) ?_
  refine lv_iload_n hx hb dX6_without_6 rfl (lv_at hl 2 rfl) ?_
  refine g_callF (F := f_X6_isCell a b) hD hS hA (va_runS (As := [.int a, .int b]) (rest := []) ⟨hx, hb, hml, hown, hts⟩ (c_X6_isCell l D cs ad u1 H.size a b) (va_cwS 2 hts gX6_without_X6_isCell rfl rfl rfl (by decide +kernel) ⟨Nat.le_of_ble_eq_true rfl, Nat.le_of_ble_eq_true rfl⟩) (g_preS hP hD hK hN) rfl rfl hl.1 rfl (lv_room (Nat.le_of_ble_eq_true rfl)) dX6_without_7 ⟨Nat.le_of_ble_eq_true rfl, Nat.le_of_ble_eq_true rfl⟩) (fun H locs hP hD hS => ?_)
  refine lv_if_ne (tgt := 19) hx hb dX6_without_10 (by decide) (fun c_2 => ?_) (fun c_2 => ?_)
  · skip
    refine lv_iload_n hx hb dX6_without_19 rfl (lv_at hl 1 rfl) ?_
    refine lv_bipush (v := nI 16) hx hb dX6_without_20 (by decide) ?_
    refine lv_iload_n hx hb dX6_without_22 rfl (lv_at hl 2 rfl) ?_
    refine lv_imul hx hb dX6_without_23 ?_
    refine lv_iadd hx hb dX6_without_24 ?_
    have h256 := pl_256 (cell_1 c_2)
    refine lv_topi (fun y9 ey9 => ?_)
    obtain rfl := ey9.trans (pl_x (cell_1 c_2))
    refine lv_istore_n (lv' := [(3, .int (nI (pl a b))), (0, .ref (ad k)), (1, .int a), (2, .int b)]) hx hb dX6_without_25 rfl hl (by decide) rfl (fun ls hl => ?_)
    refine lv_aload_n hx hb dX6_without_26 rfl (lv_at hl 1 rfl) ?_
    refine lv_iload_n hx hb dX6_without_27 rfl (lv_at hl 0 rfl) ?_
    refine g_callF (F := f_X6_isOpen u1 k (pl a b)) hD hS hA (va_runV (As := [.int (nI (pl a b))]) (rest := []) ⟨hx, hb, hml, hown, hts⟩ (c_X6_isOpen l D cs ad u1 H.size k hk (pl a b) (by omega)) (cwV 1 hts gX6_without_X6_isOpen rfl rfl rfl (by decide +kernel) ⟨Nat.le_of_ble_eq_true rfl, Nat.le_of_ble_eq_true rfl⟩) (g_preV hP hD hK hN (k := k) hk (by decide) rfl rfl rfl rfl) rfl rfl hl.1 rfl (lv_room (Nat.le_of_ble_eq_true rfl)) dX6_without_28 ⟨Nat.le_of_ble_eq_true rfl, Nat.le_of_ble_eq_true rfl⟩) (fun H locs hP hD hS => ?_)
    refine lv_if_ne (tgt := 36) hx hb dX6_without_31 (by decide) (fun c_3 => ?_) (fun c_3 => ?_)
    · skip
      refine lv_aload_n hx hb dX6_without_36 rfl (lv_at hl 1 rfl) ?_
      refine g_get (κ := 10) (ci := 6) (v := .ref (ad (k + 1))) (C := RX6) (T := TX6) (N := 8) hx hb hts hown hK hP (k := k) hk (by decide) rfl (fun _ h => List.mem_cons_of_mem _ (List.mem_append_right _ h)) rfl 1 (by decide) (hts _ (List.mem_of_getElem? (i := 2) rfl)) (fun _ h9 => h9) rfl dX6_without_37 ?_
      refine lv_iload_n hx hb dX6_without_40 rfl (lv_at hl 0 rfl) ?_
      refine lv_bipush (v := nI 10) hx hb dX6_without_41 (by decide) ?_
      refine g_iastn (n := 256) (i := (pl a b)) hx hb hK hP hD hS (k := (k + 1)) (kd_10_1 hk) (by decide) (fun _ => rfl) (by omega) (by decide) dX6_without_43 (fun u4 H locs hu4 hP hD hS => ?_)
      have hR3 : Rl z (wr J (z + 1 + 1) (pl a b) (nI 10)) k u4 N := by rw [hu4]; exact hR1.wc 0 (pl a b) (nI 10) (by decide)
      skip
      refine lv_aload_n hx hb dX6_without_44 rfl (lv_at hl 1 rfl) ?_
      refine lv_iconst (v := nI 0) hx hb dX6_without_45 (by decide) ?_
      refine g_calli hD hS hA (va_runV (As := [.int (nI 0)]) (rest := []) ⟨hx, hb, hml, hown, hts⟩ (c_X6_cavesOf l D cs ad u4 H.size k hk 0 (by omega) z (wr J (z + 1 + 1) (pl a b) (nI 10)) N hR3 (hIV.1.row _ _ ⟨by omega, fun i hi => by omega⟩)) (cwV 1 hts gX6_without_X6_cavesOf rfl rfl rfl (by decide +kernel) ⟨Nat.le_of_ble_eq_true rfl, Nat.le_of_ble_eq_true rfl⟩) (g_preV hP hD hK hN (k := k) hk (by decide) rfl rfl rfl rfl) rfl rfl hl.1 rfl (lv_room (Nat.le_of_ble_eq_true rfl)) dX6_without_46 ⟨Nat.le_of_ble_eq_true rfl, Nat.le_of_ble_eq_true rfl⟩) (fun ru5 u5 H locs hu5 hP hD hS => ?_)
      obtain ⟨hu5, hru5⟩ := hu5
      rw [hru5]
      refine lv_istore (lv' := [(4, .int (nI (csN (opn (wr J (z + 1 + 1) (pl a b) (nI 10)) z) (frC (wr J (z + 1 + 1) (pl a b) (nI 10)) z) (plC (wr J (z + 1 + 1) (pl a b) (nI 10)) z) N 0 256))), (3, .int (nI (pl a b))), (0, .ref (ad k)), (1, .int a), (2, .int b)]) hx hb dX6_without_49 hl (by decide) rfl (fun ls hl => ?_)
      refine lv_aload_n hx hb dX6_without_51 rfl (lv_at hl 2 rfl) ?_
      refine g_get (κ := 10) (ci := 6) (v := .ref (ad (k + 1))) (C := RX6) (T := TX6) (N := 8) hx hb hts hown hK hP (k := k) hk (by decide) rfl (fun _ h => List.mem_cons_of_mem _ (List.mem_append_right _ h)) rfl 1 (by decide) (hts _ (List.mem_of_getElem? (i := 2) rfl)) (fun _ h9 => h9) rfl dX6_without_52 ?_
      refine lv_iload_n hx hb dX6_without_55 rfl (lv_at hl 1 rfl) ?_
      refine lv_iconst (v := nI 0) hx hb dX6_without_56 (by decide) ?_
      refine g_iastn (n := 256) (i := (pl a b)) hx hb hK hP hD hS (k := (k + 1)) (kd_10_1 hk) (by decide) (fun _ => rfl) (by omega) (by decide) dX6_without_57 (fun u6 H locs hu6 hP hD hS => ?_)
      refine lv_iload hx hb dX6_without_58 (lv_at hl 0 rfl) ?_
      exact g_iret (v := nI (csN (opn (wr J (z + 1 + 1) (pl a b) (nI 10)) z) (frC (wr J (z + 1 + 1) (pl a b) (nI 10)) z) (plC (wr J (z + 1 + 1) (pl a b) (nI 10)) z) N 0 256)) hx hb hr hlocks rfl hP hD hS (Po.ok (by have a9 := (hR3.eqw hu5).wc 0 (pl a b) (nI 0) (by decide); rw [hu6]; rw [show wr (wr J (z + 1 + 1) (pl a b) (nI 10)) (z + 1 + 1 + 0) (pl a b) (nI 0) = J from by rw [Nat.add_zero, wr_wr, wr_id (show J (z + 1 + 1) (pl a b) = nI 0 from (hR1.open1 h256 c_3))]] at a9; exact a9) (by rw [hu6, wr_n _ _ _ (by omega), hu5 k (by omega), hu4, wr_n _ _ _ (by omega)]; exact hT1) (show th_X5_placeOf a b = 0 from cell_1 c_2) (without_eq h256 (hR1.open1 h256 c_3))) dX6_without_60
    · skip
      refine lv_iconst (v := -1) hx hb dX6_without_34 (by decide) ?_
      exact g_iret (v := -1) hx hb hr hlocks rfl hP hD hS (Po.ok hR1 hT1 (show th_X5_placeOf a b = 0 from cell_1 c_2) (by simp only [withoutF]; rw [if_neg (hR1.open0 h256 c_3)])) dX6_without_35
  · skip
    refine lv_aload_n hx hb dX6_without_13 rfl (lv_at hl 0 rfl) ?_
    refine lv_iconst (v := nI 1) hx hb dX6_without_14 (by decide) ?_
    refine g_callFM (F := f_X6_fail u1 k (nI 1)) (M := m_X6_fail u1 k (nI 1)) hD hS hA (va_runV (As := [.int (nI 1)]) (rest := []) ⟨hx, hb, hml, hown, hts⟩ (c_X6_fail l D cs ad u1 H.size k hk (nI 1)) (cwV 1 hts gX6_without_X6_fail rfl rfl rfl (by decide +kernel) ⟨Nat.le_of_ble_eq_true rfl, Nat.le_of_ble_eq_true rfl⟩) (g_preV hP hD hK hN (k := k) hk (by decide) rfl rfl rfl rfl) rfl rfl hl.1 rfl (lv_room (Nat.le_of_ble_eq_true rfl)) dX6_without_15 ⟨Nat.le_of_ble_eq_true rfl, Nat.le_of_ble_eq_true rfl⟩) (fun u7 H locs hu7 hP hD hS => ?_)
    exact g_iret (v := f_X6_fail u1 k (nI 1)) hx hb hr hlocks rfl hP hD hS (Po.fail hR1 hu7 (cell_0 c_2) (by decide)) dX6_without_18
