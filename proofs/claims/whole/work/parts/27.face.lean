def th_X5_placeOf (a : Int32) (b : Int32) : Nat := (if a < 0 then 1 else (if (nI 16) ≤ a then 1 else (if b < 0 then 1 else (if b < (nI 16) then 0 else 1))))
def f_X5_placeOf (a : Int32) (b : Int32) : Int32 := (if a < 0 then 0 else (if (nI 16) ≤ a then 0 else (if b < 0 then 0 else (if b < (nI 16) then a + ((nI 16) * b) else 0))))
set_option maxHeartbeats 4000000 in
set_option maxRecDepth 100000 in
theorem c_X5_placeOf (l : Launch) (hst : l.stackTraces = false) (D : va_G) (cs : Nat → ClassId) (ad : Nat → Nat) (I : Mm) (sz : Nat) (a : Int32) (b : Int32) : MetXI l yX5_placeOf wsX5_placeOf ({ frames := 6, cells := 1, slots := 6, locals := 82 }) kC cs D ad I sz [.int a, .int b] (fun r u => th_X5_placeOf a b = 0 ∧ r = f_X5_placeOf a b ∧ u = I) (thrE (th_X5_placeOf a b)) 1 6 := by
  refine g_xmet (cc := cX5_placeOf) (maxL := 2) (ret := (some .int)) (by decide) rfl (Nat.le_of_ble_eq_true rfl) ?_
  intro pg e s m args below meth c ls hx hb hr hml hts hown hlocks hsz hP hD hK hN hS hA hl hX ht
  have hown : s.vm.findClass RX5 = some m.cls := hown
  have hl : lv_has ls 2 [(0, .int a), (1, .int b)] := hl
  refine lv_iload_n hx hb dX5_placeOf_0 rfl (lv_at hl 0 rfl) ?_
  refine lv_if_lt (tgt := 20) hx hb dX5_placeOf_1 (by decide) (fun c_1 => ?_) (fun c_1 => ?_)
  · skip
    exact g_throw (own := RX5) (cls := "java/lang/IndexOutOfBoundsException") (text := "no such cell") (names := ["java/lang/RuntimeException", "java/lang/Exception"]) (ik := 76) (is := 231) (ic := 80) hx hb hst hown (by decide +kernel) (by decide +kernel) (hts _ (List.mem_of_getElem? (i := 1) rfl)) (hts _ (List.mem_of_getElem? (i := 2) rfl)) rfl (by decide) hN (fun w h => hts w (List.mem_cons_of_mem _ (List.mem_append_right _ h))) xb_80 xg_80 hX hS hP hD (hl.1.trans hml.symm) dX5_placeOf_20 dX5_placeOf_23 dX5_placeOf_24 dX5_placeOf_26 dX5_placeOf_29 ht (Nat.le_of_ble_eq_true rfl) (Nat.le_of_ble_eq_true rfl) (Nat.le_of_ble_eq_true rfl) (Nat.le_of_ble_eq_true rfl) hlocks (Nat.le_of_ble_eq_true rfl) (Nat.le_of_ble_eq_true rfl) (by simp only [th_X5_placeOf, if_pos c_1]; exact thr_1)
  · skip
    refine lv_iload_n hx hb dX5_placeOf_4 rfl (lv_at hl 0 rfl) ?_
    refine lv_bipush (v := nI 16) hx hb dX5_placeOf_5 (by decide) ?_
    refine lv_icmp_ge (tgt := 20) hx hb dX5_placeOf_7 (by decide) (fun c_2 => ?_) (fun c_2 => ?_)
    · skip
      exact g_throw (own := RX5) (cls := "java/lang/IndexOutOfBoundsException") (text := "no such cell") (names := ["java/lang/RuntimeException", "java/lang/Exception"]) (ik := 76) (is := 231) (ic := 80) hx hb hst hown (by decide +kernel) (by decide +kernel) (hts _ (List.mem_of_getElem? (i := 1) rfl)) (hts _ (List.mem_of_getElem? (i := 2) rfl)) rfl (by decide) hN (fun w h => hts w (List.mem_cons_of_mem _ (List.mem_append_right _ h))) xb_80 xg_80 hX hS hP hD (hl.1.trans hml.symm) dX5_placeOf_20 dX5_placeOf_23 dX5_placeOf_24 dX5_placeOf_26 dX5_placeOf_29 ht (Nat.le_of_ble_eq_true rfl) (Nat.le_of_ble_eq_true rfl) (Nat.le_of_ble_eq_true rfl) (Nat.le_of_ble_eq_true rfl) hlocks (Nat.le_of_ble_eq_true rfl) (Nat.le_of_ble_eq_true rfl) (by simp only [th_X5_placeOf, if_neg c_1, if_pos c_2]; exact thr_1)
    · skip
      refine lv_iload_n hx hb dX5_placeOf_10 rfl (lv_at hl 1 rfl) ?_
      refine lv_if_lt (tgt := 20) hx hb dX5_placeOf_11 (by decide) (fun c_3 => ?_) (fun c_3 => ?_)
      · skip
        exact g_throw (own := RX5) (cls := "java/lang/IndexOutOfBoundsException") (text := "no such cell") (names := ["java/lang/RuntimeException", "java/lang/Exception"]) (ik := 76) (is := 231) (ic := 80) hx hb hst hown (by decide +kernel) (by decide +kernel) (hts _ (List.mem_of_getElem? (i := 1) rfl)) (hts _ (List.mem_of_getElem? (i := 2) rfl)) rfl (by decide) hN (fun w h => hts w (List.mem_cons_of_mem _ (List.mem_append_right _ h))) xb_80 xg_80 hX hS hP hD (hl.1.trans hml.symm) dX5_placeOf_20 dX5_placeOf_23 dX5_placeOf_24 dX5_placeOf_26 dX5_placeOf_29 ht (Nat.le_of_ble_eq_true rfl) (Nat.le_of_ble_eq_true rfl) (Nat.le_of_ble_eq_true rfl) (Nat.le_of_ble_eq_true rfl) hlocks (Nat.le_of_ble_eq_true rfl) (Nat.le_of_ble_eq_true rfl) (by simp only [th_X5_placeOf, if_neg c_1, if_neg c_2, if_pos c_3]; exact thr_1)
      · skip
        refine lv_iload_n hx hb dX5_placeOf_14 rfl (lv_at hl 1 rfl) ?_
        refine lv_bipush (v := nI 16) hx hb dX5_placeOf_15 (by decide) ?_
        refine lv_icmp_lt (tgt := 30) hx hb dX5_placeOf_17 (by decide) (fun c_4 => ?_) (fun c_4 => ?_)
        · skip
          refine lv_iload_n hx hb dX5_placeOf_30 rfl (lv_at hl 0 rfl) ?_
          refine lv_bipush (v := nI 16) hx hb dX5_placeOf_31 (by decide) ?_
          refine lv_iload_n hx hb dX5_placeOf_33 rfl (lv_at hl 1 rfl) ?_
          refine lv_imul hx hb dX5_placeOf_34 ?_
          refine lv_iadd hx hb dX5_placeOf_35 ?_
          refine W.widen (k := 1) (n := 6) (Nat.le_of_ble_eq_true rfl) (Nat.le_of_ble_eq_true rfl) ?_
          refine vx_ret ?_
          exact g_iret (v := a + ((nI 16) * b)) hx hb hr hlocks rfl hP hD hS ⟨(by simp only [th_X5_placeOf, if_neg c_1, if_neg c_2, if_neg c_3, if_pos c_4]), (by simp only [f_X5_placeOf, if_neg c_1, if_neg c_2, if_neg c_3, if_pos c_4]), rfl⟩ dX5_placeOf_36
        · skip
          exact g_throw (own := RX5) (cls := "java/lang/IndexOutOfBoundsException") (text := "no such cell") (names := ["java/lang/RuntimeException", "java/lang/Exception"]) (ik := 76) (is := 231) (ic := 80) hx hb hst hown (by decide +kernel) (by decide +kernel) (hts _ (List.mem_of_getElem? (i := 1) rfl)) (hts _ (List.mem_of_getElem? (i := 2) rfl)) rfl (by decide) hN (fun w h => hts w (List.mem_cons_of_mem _ (List.mem_append_right _ h))) xb_80 xg_80 hX hS hP hD (hl.1.trans hml.symm) dX5_placeOf_20 dX5_placeOf_23 dX5_placeOf_24 dX5_placeOf_26 dX5_placeOf_29 ht (Nat.le_of_ble_eq_true rfl) (Nat.le_of_ble_eq_true rfl) (Nat.le_of_ble_eq_true rfl) (Nat.le_of_ble_eq_true rfl) hlocks (Nat.le_of_ble_eq_true rfl) (Nat.le_of_ble_eq_true rfl) (by simp only [th_X5_placeOf, if_neg c_1, if_neg c_2, if_neg c_3, if_neg c_4]; exact thr_1)

def th_X5_requireTicks (a : Int32) : Nat := (if a < (nI 1) then 2 else (if a ≤ (nI 100) then 0 else 2))
set_option maxHeartbeats 4000000 in
set_option maxRecDepth 100000 in
theorem c_X5_requireTicks (l : Launch) (hst : l.stackTraces = false) (D : va_G) (cs : Nat → ClassId) (ad : Nat → Nat) (I : Mm) (sz : Nat) (a : Int32) : MetXN l yX5_requireTicks wsX5_requireTicks ({ frames := 6, cells := 1, slots := 6, locals := 82 }) kC cs D ad I sz [.int a] (fun u => th_X5_requireTicks a = 0 ∧ u = I) (thrE (th_X5_requireTicks a)) 1 6 := by
  refine g_xmet (cc := cX5_requireTicks) (maxL := 1) (ret := none) (by decide) rfl (Nat.le_of_ble_eq_true rfl) ?_
  intro pg e s m args below meth c ls hx hb hr hml hts hown hlocks hsz hP hD hK hN hS hA hl hX ht
  have hown : s.vm.findClass RX5 = some m.cls := hown
  have hl : lv_has ls 1 [(0, .int a)] := hl
  refine lv_iload_n hx hb dX5_requireTicks_0 rfl (lv_at hl 0 rfl) ?_
  refine lv_iconst (v := nI 1) hx hb dX5_requireTicks_1 (by decide) ?_
  refine lv_icmp_lt (tgt := 11) hx hb dX5_requireTicks_2 (by decide) (fun c_1 => ?_) (fun c_1 => ?_)
  · skip
    exact g_throw (own := RX5) (cls := "java/lang/IllegalArgumentException") (text := "ticks are 1 to 100") (names := ["java/lang/RuntimeException", "java/lang/Exception"]) (ik := 30) (is := 233) (ic := 34) hx hb hst hown (by decide +kernel) (by decide +kernel) (hts _ (List.mem_of_getElem? (i := 1) rfl)) (hts _ (List.mem_of_getElem? (i := 2) rfl)) rfl (by decide) hN (fun w h => hts w (List.mem_cons_of_mem _ (List.mem_append_right _ h))) xb_34 xg_34 hX hS hP hD (hl.1.trans hml.symm) dX5_requireTicks_11 dX5_requireTicks_14 dX5_requireTicks_15 dX5_requireTicks_17 dX5_requireTicks_20 ht (Nat.le_of_ble_eq_true rfl) (Nat.le_of_ble_eq_true rfl) (Nat.le_of_ble_eq_true rfl) (Nat.le_of_ble_eq_true rfl) hlocks (Nat.le_of_ble_eq_true rfl) (Nat.le_of_ble_eq_true rfl) (by simp only [th_X5_requireTicks, if_pos c_1]; exact thr_2)
  · skip
    refine lv_iload_n hx hb dX5_requireTicks_5 rfl (lv_at hl 0 rfl) ?_
    refine lv_bipush (v := nI 100) hx hb dX5_requireTicks_6 (by decide) ?_
    refine lv_icmp_le (tgt := 21) hx hb dX5_requireTicks_8 (by decide) (fun c_2 => ?_) (fun c_2 => ?_)
    · skip
      refine W.widen (k := 1) (n := 6) (Nat.le_of_ble_eq_true rfl) (Nat.le_of_ble_eq_true rfl) ?_
      refine vx_ret ?_
      exact g_vret hx hb hr hlocks hP hD hS ⟨(by simp only [th_X5_requireTicks, if_neg c_1, if_pos c_2]), rfl⟩ dX5_requireTicks_21
    · skip
      exact g_throw (own := RX5) (cls := "java/lang/IllegalArgumentException") (text := "ticks are 1 to 100") (names := ["java/lang/RuntimeException", "java/lang/Exception"]) (ik := 30) (is := 233) (ic := 34) hx hb hst hown (by decide +kernel) (by decide +kernel) (hts _ (List.mem_of_getElem? (i := 1) rfl)) (hts _ (List.mem_of_getElem? (i := 2) rfl)) rfl (by decide) hN (fun w h => hts w (List.mem_cons_of_mem _ (List.mem_append_right _ h))) xb_34 xg_34 hX hS hP hD (hl.1.trans hml.symm) dX5_requireTicks_11 dX5_requireTicks_14 dX5_requireTicks_15 dX5_requireTicks_17 dX5_requireTicks_20 ht (Nat.le_of_ble_eq_true rfl) (Nat.le_of_ble_eq_true rfl) (Nat.le_of_ble_eq_true rfl) (Nat.le_of_ble_eq_true rfl) hlocks (Nat.le_of_ble_eq_true rfl) (Nat.le_of_ble_eq_true rfl) (by simp only [th_X5_requireTicks, if_neg c_1, if_neg c_2]; exact thr_2)

def f_X5_oneIf (a : Int32) : Int32 := (if a = 0 then nI 0 else nI 1)
set_option maxHeartbeats 4000000 in
set_option maxRecDepth 100000 in
theorem c_X5_oneIf (l : Launch) (D : va_G) (cs : Nat → ClassId) (ad : Nat → Nat) (I : Mm) (sz : Nat) (a : Int32) (ha : a = 0 ∨ a = 1) : MetI l yX5_oneIf wsX5_oneIf ({ frames := 0, cells := 0, slots := 0, locals := 0 }) kC cs D ad I sz [.int a] (fun r u => r = f_X5_oneIf a ∧ u = I) 0 0 := by
  refine g_met (cc := cX5_oneIf) (maxL := 1) (ret := (some .int)) (by decide) rfl (Nat.le_of_ble_eq_true rfl) ?_
  intro pg e s m args below meth c ls hx hb hr hml hts hown hlocks hsz hP hD hK hN hS hA hl
  have hown : s.vm.findClass RX5 = some m.cls := hown
  have hl : lv_has ls 1 [(0, .int a)] := hl
  refine lv_iload_n hx hb dX5_oneIf_0 rfl (lv_at hl 0 rfl) ?_
  refine lv_if_eq (tgt := 8) hx hb dX5_oneIf_1 (by decide) (fun c_1 => ?_) (fun c_1 => ?_)
  · skip
    refine lv_iconst (v := nI 0) hx hb dX5_oneIf_8 (by decide) ?_
    exact g_iret (v := nI 0) hx hb hr hlocks rfl hP hD hS ⟨(by simp only [f_X5_oneIf, if_pos c_1]), rfl⟩ dX5_oneIf_9
  · skip
    refine lv_iconst (v := nI 1) hx hb dX5_oneIf_4 (by decide) ?_
    refine lv_goto (tgt := 9) hx hb dX5_oneIf_5 (by decide) ?_
    exact g_iret (v := nI 1) hx hb hr hlocks rfl hP hD hS ⟨(by simp only [f_X5_oneIf, if_neg c_1]), rfl⟩ dX5_oneIf_9
