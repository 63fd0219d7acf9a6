set_option maxHeartbeats 4000000 in
set_option maxRecDepth 100000 in
theorem c_X6_areTogether (l : Launch) (D : va_G) (cs : Nat → ClassId) (ad : Nat → Nat) (I : Mm) (sz : Nat) (k : Nat) (hk : kM.getD k 0 = 10) (a : Nat) (ha : a < 8) (b : Nat) (hb_8 : b < 8) (z : Nat) (J : Mm) (N : Nat) (hRl : Rl z J k I N) (hIV : IV J z N) (haN : a < N) (hbN : b < N) : MetI l yX6_areTogether wsX6_areTogether ({ frames := 2, cells := 0, slots := 0, locals := 44 }) kM cs D ad I sz [.ref (ad k), .int (nI a), .int (nI b)] (fun r u => r = f_X0_areTogether J z a b ∧ u = I) 0 0 := by
  refine g_met (cc := cX6_areTogether) (maxL := 3) (ret := (some .boolean)) (by decide) rfl (Nat.le_of_ble_eq_true rfl) ?_
  intro pg e s m args below meth c ls hx hb hr hml hts hown hlocks hsz hP hD hK hN hS hA hl
  have hown : s.vm.findClass RX6 = some m.cls := hown
  have hl : lv_has ls 3 [(0, .ref (ad k)), (1, .int (nI a)), (2, .int (nI b))] := hl
  have hN8 := hIV.1.2.1
  obtain ⟨pa, pa8, pa9⟩ := hIV.place haN
  refine lv_aload_n hx hb dX6_areTogether_0 rfl (lv_at hl 0 rfl) ?_
  refine lv_iload_n hx hb dX6_areTogether_1 rfl (lv_at hl 1 rfl) ?_
  refine g_callF (F := f_X6_isFree I k a) hD hS hA (va_runV (As := [.int (nI a)]) (rest := []) ⟨hx, hb, hml, hown, hts⟩ (c_X6_isFree l D cs ad I s.heap.size k hk a (by omega)) (cwV 1 hts gX6_areTogether_X6_isFree rfl rfl rfl (by decide +kernel) ⟨Nat.le_of_ble_eq_true rfl, Nat.le_of_ble_eq_true rfl⟩) (g_preV hP hD hK hN (k := k) hk (by decide) rfl rfl rfl rfl) rfl rfl hl.1 rfl (lv_room (Nat.le_of_ble_eq_true rfl)) dX6_areTogether_2 ⟨Nat.le_of_ble_eq_true rfl, Nat.le_of_ble_eq_true rfl⟩) (fun H locs hP hD hS => ?_)
  refine lv_if_eq (tgt := 38) hx hb dX6_areTogether_5 (by decide) (fun c_1 => ?_) (fun c_1 => ?_)
  · skip
    refine lv_iconst (v := nI 0) hx hb dX6_areTogether_38 (by decide) ?_
    exact g_iret (v := nI 0) hx hb hr hlocks rfl hP hD hS ⟨by simp only [f_X0_areTogether]; rw [if_neg (hRl.free0 (by omega) c_1)], rfl⟩ dX6_areTogether_39
  · skip
    refine lv_aload_n hx hb dX6_areTogether_8 rfl (lv_at hl 0 rfl) ?_
    refine lv_iload_n hx hb dX6_areTogether_9 rfl (lv_at hl 2 rfl) ?_
    refine g_callF (F := f_X6_isFree I k b) hD hS hA (va_runV (As := [.int (nI b)]) (rest := []) ⟨hx, hb, hml, hown, hts⟩ (c_X6_isFree l D cs ad I H.size k hk b (by omega)) (cwV 1 hts gX6_areTogether_X6_isFree rfl rfl rfl (by decide +kernel) ⟨Nat.le_of_ble_eq_true rfl, Nat.le_of_ble_eq_true rfl⟩) (g_preV hP hD hK hN (k := k) hk (by decide) rfl rfl rfl rfl) rfl rfl hl.1 rfl (lv_room (Nat.le_of_ble_eq_true rfl)) dX6_areTogether_10 ⟨Nat.le_of_ble_eq_true rfl, Nat.le_of_ble_eq_true rfl⟩) (fun H locs hP hD hS => ?_)
    refine lv_if_eq (tgt := 38) hx hb dX6_areTogether_13 (by decide) (fun c_2 => ?_) (fun c_2 => ?_)
    · skip
      refine lv_iconst (v := nI 0) hx hb dX6_areTogether_38 (by decide) ?_
      exact g_iret (v := nI 0) hx hb hr hlocks rfl hP hD hS ⟨by simp only [f_X0_areTogether]; rw [if_pos (hRl.free1 (by omega) c_1), if_neg (hRl.free0 (by omega) c_2)], rfl⟩ dX6_areTogether_39
    · skip
      refine lv_aload_n hx hb dX6_areTogether_16 rfl (lv_at hl 0 rfl) ?_
      refine lv_iload_n hx hb dX6_areTogether_17 rfl (lv_at hl 1 rfl) ?_
      refine lv_iconst (v := nI 0) hx hb dX6_areTogether_18 (by decide) ?_
      refine g_callF (F := I (k + 4) (31 * a + 0)) hD hS hA (va_runV (As := [.int (nI a), .int (nI 0)]) (rest := []) ⟨hx, hb, hml, hown, hts⟩ (c_X6_get l D cs ad I H.size k hk a (by omega) 0 (by omega)) (cwV 2 hts gX6_areTogether_X6_get rfl rfl rfl (by decide +kernel) ⟨Nat.le_of_ble_eq_true rfl, Nat.le_of_ble_eq_true rfl⟩) (g_preV hP hD hK hN (k := k) hk (by decide) rfl rfl rfl rfl) rfl rfl hl.1 rfl (lv_room (Nat.le_of_ble_eq_true rfl)) dX6_areTogether_19 ⟨Nat.le_of_ble_eq_true rfl, Nat.le_of_ble_eq_true rfl⟩) (fun H locs hP hD hS => ?_)
      rw [show I (k + 4) (31 * a + 0) = nI pa from ((hRl.t (by omega) (by decide)).trans pa9)]
      refine lv_aload_n hx hb dX6_areTogether_22 rfl (lv_at hl 0 rfl) ?_
      refine lv_iload_n hx hb dX6_areTogether_23 rfl (lv_at hl 2 rfl) ?_
      refine lv_iconst (v := nI 0) hx hb dX6_areTogether_24 (by decide) ?_
      refine g_callF (F := I (k + 4) (31 * b + 0)) hD hS hA (va_runV (As := [.int (nI b), .int (nI 0)]) (rest := [.int (nI pa)]) ⟨hx, hb, hml, hown, hts⟩ (c_X6_get l D cs ad I H.size k hk b (by omega) 0 (by omega)) (cwV 2 hts gX6_areTogether_X6_get rfl rfl rfl (by decide +kernel) ⟨Nat.le_of_ble_eq_true rfl, Nat.le_of_ble_eq_true rfl⟩) (g_preV hP hD hK hN (k := k) hk (by decide) rfl rfl rfl rfl) rfl rfl hl.1 rfl (lv_room (Nat.le_of_ble_eq_true rfl)) dX6_areTogether_25 ⟨Nat.le_of_ble_eq_true rfl, Nat.le_of_ble_eq_true rfl⟩) (fun H locs hP hD hS => ?_)
      rw [show I (k + 4) (31 * b + 0) = J (z + 8 + (1 + b)) 0 from (hRl.t (by omega) (by decide))]
      refine g_callF (F := f_X6_isNear (nI pa) (J (z + 8 + (1 + b)) 0)) hD hS hA (va_runS (As := [.int (nI pa), .int (J (z + 8 + (1 + b)) 0)]) (rest := []) ⟨hx, hb, hml, hown, hts⟩ (c_X6_isNear l D cs ad I H.size (nI pa) (J (z + 8 + (1 + b)) 0)) (va_cwS 2 hts gX6_areTogether_X6_isNear rfl rfl rfl (by decide +kernel) ⟨Nat.le_of_ble_eq_true rfl, Nat.le_of_ble_eq_true rfl⟩) (g_preS hP hD hK hN) rfl rfl hl.1 rfl (lv_room (Nat.le_of_ble_eq_true rfl)) dX6_areTogether_28 ⟨Nat.le_of_ble_eq_true rfl, Nat.le_of_ble_eq_true rfl⟩) (fun H locs hP hD hS => ?_)
      refine lv_if_eq (tgt := 38) hx hb dX6_areTogether_31 (by decide) (fun c_3 => ?_) (fun c_3 => ?_)
      · skip
        refine lv_iconst (v := nI 0) hx hb dX6_areTogether_38 (by decide) ?_
        exact g_iret (v := nI 0) hx hb hr hlocks rfl hP hD hS ⟨by simp only [f_X0_areTogether]; rw [if_pos (hRl.free1 (by omega) c_1), if_pos (hRl.free1 (by omega) c_2), pa9, ← nearM pa8]; exact c_3.symm, rfl⟩ dX6_areTogether_39
      · skip
        refine lv_iconst (v := nI 1) hx hb dX6_areTogether_34 (by decide) ?_
        refine lv_goto (tgt := 39) hx hb dX6_areTogether_35 (by decide) ?_
        exact g_iret (v := nI 1) hx hb hr hlocks rfl hP hD hS ⟨by simp only [f_X0_areTogether]; rw [if_pos (hRl.free1 (by omega) c_1), if_pos (hRl.free1 (by omega) c_2), pa9, ← nearM pa8]; rw [nearM pa8] at *; exact ((near_bo _ _).resolve_left c_3).symm, rfl⟩ dX6_areTogether_39
