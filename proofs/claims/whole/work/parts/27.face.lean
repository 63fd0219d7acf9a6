def th_X5_placeOf (a : Int32) (b : Int32) : Nat := (if a < 0 then 1 else (if (nI 16) ≤ a then 1 else (if b < 0 then 1 else (if b < (nI 16) then 0 else 1))))
def f_X5_placeOf (a : Int32) (b : Int32) : Int32 := (if a < 0 then 0 else (if (nI 16) ≤ a then 0 else (if b < 0 then 0 else (if b < (nI 16) then a + ((nI 16) * b) else 0))))
set_option maxHeartbeats 4000000 in
set_option maxRecDepth 100000 in
theorem c_X5_placeOf (l : Launch) (hst : l.stackTraces = false) (D : va_G) (cs : Nat → ClassId) (ad : Nat → Nat) (I : Mm) (sz : Nat) (a : Int32) (b : Int32) : MetXI l yX5_placeOf wsX5_placeOf ({ frames := 6, cells := 1, slots := 6, locals := 82 }) kC cs D ad I sz [.int a, .int b] (fun r u => th_X5_placeOf a b = 0 ∧ r = f_X5_placeOf a b ∧ u = I) (thrE (th_X5_placeOf a b)) 1 6 := by
  refine g_xmet (cc := cX5_placeOf) (maxL := 2) (ret := (some .int)) (by decide) rfl (Nat.le_of_ble_eq_true rfl) ?_
  intro pg e s m args below meth c ls hx hb hr hml hts hown hlocks hsz hP hD hK hN hS hA hl hX ht
  have hown : s.vm.findClass RX5 = some m.cls := hown
  have hl : lv_has ls 2 [(0, .int a), (1, .int b)] := hl
  refine lv_iload_n hx hb dX5_placeOf_0 rfl (lv_at hl 0 rfl) ?_
  refine lv_if_lt (tgt := 20) hx hb dX5_placeOf_1 (by decide) (fun c_1 => ?_) (fun c_1 => ?_)
  · skip
    exact g_throw (own := RX5) (cls := "java/lang/IndexOutOfBoundsException") (text := "no such cell") (names := ["java/lang/RuntimeException", "java/lang/Exception"]) (ik := 76) (is := 231) (ic := 80) hx hb hst hown (by decide +kernel) (by decide +kernel) (hts _ (List.mem_of_getElem? (i := 1) rfl)) (hts _ (List.mem_of_getElem? (i := 2) rfl)) rfl (by decide) hN (fun w h => hts w (List.mem_cons_of_mem _ (List.mem_append_right _ h))) xb_80 xg_80 hX hS hP hD (hl.1.trans hml.symm) dX5_placeOf_20 dX5_placeOf_23 dX5_placeOf_24 dX5_placeOf_26 dX5_placeOf_29 ht (Nat.le_of_ble_eq_true rfl) (Nat.le_of_ble_eq_true rfl) (Nat.le_of_ble_eq_true rfl) (Nat.le_of_ble_eq_true rfl) hlocks (Nat.le_of_ble_eq_true rfl) (Nat.le_of_ble_eq_true rfl) (by simp only [th_X5_placeOf, if_pos c_1]; exact thr_1)
  · skip
    refine lv_iload_n hx hb dX5_placeOf_4 rfl (lv_at hl 0 rfl) ?_
    refine lv_bipush (v := nI 16) hx hb dX5_placeOf_5 (by decide) ?_
    refine lv_icmp_ge (tgt := 20) hx hb dX5_placeOf_7 (by decide) (fun c_2 => ?_) (fun c_2 => ?_)
    · skip
      exact g_throw (own := RX5) (cls := "java/lang/IndexOutOfBoundsException") (text := "no such cell") (names := ["java/lang/RuntimeException", "java/lang/Exception"]) (ik := 76) (is := 231) (ic := 80) hx hb hst hown (by decide +kernel) (by decide +kernel) (hts _ (List.mem_of_getElem? (i := 1) rfl)) (hts _ (List.mem_of_getElem? (i := 2) rfl)) rfl (by decide) hN (fun w h => hts w (List.mem_cons_of_mem _ (List.mem_append_right _ h))) xb_80 xg_80 hX hS hP hD (hl.1.trans hml.symm) dX5_placeOf_20 dX5_placeOf_23 dX5_placeOf_24 dX5_placeOf_26 dX5_placeOf_29 ht (Nat.le_of_ble_eq_true rfl) (Nat.le_of_ble_eq_true rfl) (Nat.le_of_ble_eq_true rfl) (Nat.le_of_ble_eq_true rfl) hlocks (Nat.le_of_ble_eq_true rfl) (Nat.le_of_ble_eq_true rfl) (by simp only [th_X5_placeOf, if_neg c_1, if_pos c_2]; exact thr_1)
    · skip
      refine lv_iload_n hx hb dX5_placeOf_10 rfl (lv_at hl 1 rfl) ?_
      refine lv_if_lt (tgt := 20) hx hb dX5_placeOf_11 (by decide) (fun c_3 => ?_) (fun c_3 => ?_)
      · skip
        exact g_throw (own := RX5) (cls := "java/lang/IndexOutOfBoundsException") (text := "no such cell") (names := ["java/lang/RuntimeException", "java/lang/Exception"]) (ik := 76) (is := 231) (ic := 80) hx hb hst hown (by decide +kernel) (by decide +kernel) (hts _ (List.mem_of_getElem? (i := 1) rfl)) (hts _ (List.mem_of_getElem? (i := 2) rfl)) rfl (by decide) hN (fun w h => hts w (List.mem_cons_of_mem _ (List.mem_append_right _ h))) xb_80 xg_80 hX hS hP hD (hl.1.trans hml.symm) dX5_placeOf_20 dX5_placeOf_23 dX5_placeOf_24 dX5_placeOf_26 dX5_placeOf_29 ht (Nat.le_of_ble_eq_true rfl) (Nat.le_of_ble_eq_true rfl) (Nat.le_of_ble_eq_true rfl) (Nat.le_of_ble_eq_true rfl) hlocks (Nat.le_of_ble_eq_true rfl) (Nat.le_of_ble_eq_true rfl) (by simp only [th_X5_placeOf, if_neg c_1, if_neg c_2, if_pos c_3]; exact thr_1)
      · skip
        refine lv_iload_n hx hb dX5_placeOf_14 rfl (lv_at hl 1 rfl) ?_
        refine lv_bipush (v := nI 16) hx hb dX5_placeOf_15 (by decide) ?_
        refine lv_icmp_lt (tgt := 30) hx hb dX5_placeOf_17 (by decide) (fun c_4 => ?_) (fun c_4 => ?_)
        · skip
          refine lv_iload_n hx hb dX5_placeOf_30 rfl (lv_at hl 0 rfl) ?_
          refine lv_bipush (v := nI 16) hx hb dX5_placeOf_31 (by decide) ?_
          refine lv_iload_n hx hb dX5_placeOf_33 rfl (lv_at hl 1 rfl) ?_
          refine lv_imul hx hb dX5_placeOf_34 ?_
          refine lv_iadd hx hb dX5_placeOf_35 ?_
          refine W.widen (k := 1) (n := 6) (Nat.le_of_ble_eq_true rfl) (Nat.le_of_ble_eq_true rfl) ?_
          refine vx_ret ?_
          exact g_iret (v := a + ((nI 16) * b)) hx hb hr hlocks rfl hP hD hS ⟨(by simp only [th_X5_placeOf, if_neg c_1, if_neg c_2, if_neg c_3, if_pos c_4]), (by simp only [f_X5_placeOf, if_neg c_1, if_neg c_2, if_neg c_3, if_pos c_4]), rfl⟩ dX5_placeOf_36
        · skip
          exact g_throw (own := RX5) (cls := "java/lang/IndexOutOfBoundsException") (text := "no such cell") (names := ["java/lang/RuntimeException", "java/lang/Exception"]) (ik := 76) (is := 231) (ic := 80) hx hb hst hown (by decide +kernel) (by decide +kernel) (hts _ (List.mem_of_getElem? (i := 1) rfl)) (hts _ (List.mem_of_getElem? (i := 2) rfl)) rfl (by decide) hN (fun w h => hts w (List.mem_cons_of_mem _ (List.mem_append_right _ h))) xb_80 xg_80 hX hS hP hD (hl.1.trans hml.symm) dX5_placeOf_20 dX5_placeOf_23 dX5_placeOf_24 dX5_placeOf_26 dX5_placeOf_29 ht (Nat.le_of_ble_eq_true rfl) (Nat.le_of_ble_eq_true rfl) (Nat.le_of_ble_eq_true rfl) (Nat.le_of_ble_eq_true rfl) hlocks (Nat.le_of_ble_eq_true rfl) (Nat.le_of_ble_eq_true rfl) (by simp only [th_X5_placeOf, if_neg c_1, if_neg c_2, if_neg c_3, if_neg c_4]; exact thr_1)

def th_X5_requireTicks (a : Int32) : Nat := (if a < (nI 1) then 2 else (if a ≤ (nI 100) then 0 else 2))
set_option maxHeartbeats 4000000 in
set_option maxRecDepth 100000 in
theorem c_X5_requireTicks (l : Launch) (hst : l.stackTraces = false) (D : va_G) (cs : Nat → ClassId) (ad : Nat → Nat) (I : Mm) (sz : Nat) (a : Int32) : MetXN l yX5_requireTicks wsX5_requireTicks ({ frames := 6, cells := 1, slots := 6, locals := 82 }) kC cs D ad I sz [.int a] (fun u => th_X5_requireTicks a = 0 ∧ u = I) (thrE (th_X5_requireTicks a)) 1 6 := by
  refine g_xmet (cc := cX5_requireTicks) (maxL := 1) (ret := none) (by decide) rfl (Nat.le_of_ble_eq_true rfl) ?_
  intro pg e s m args below meth c ls hx hb hr hml hts hown hlocks hsz hP hD hK hN hS hA hl hX ht
  have hown : s.vm.findClass RX5 = some m.cls := hown
  have hl : lv_has ls 1 [(0, .int a)] := hl
  refine lv_iload_n hx hb dX5_requireTicks_0 rfl (lv_at hl 0 rfl) ?_
  refine lv_iconst (v := nI 1) hx hb dX5_requireTicks_1 (by decide) ?_
  refine lv_icmp_lt (tgt := 11) hx hb dX5_requireTicks_2 (by decide) (fun c_1 => ?_) (fun c_1 => ?_)
  · skip
    exact g_throw (own := RX5) (cls := "java/lang/IllegalArgumentException") (text := "ticks are 1 to 100") (names := ["java/lang/RuntimeException", "java/lang/Exception"]) (ik := 30) (is := 233) (ic := 34) hx hb hst hown (by decide +kernel) (by decide +kernel) (hts _ (List.mem_of_getElem? (i := 1) rfl)) (hts _ (List.mem_of_getElem? (i := 2) rfl)) rfl (by decide) hN (fun w h => hts w (List.mem_cons_of_mem _ (List.mem_append_right _ h))) xb_34 xg_34 hX hS hP hD (hl.1.trans hml.symm) dX5_requireTicks_11 dX5_requireTicks_14 dX5_requireTicks_15 dX5_requireTicks_17 dX5_requireTicks_20 ht (Nat.le_of_ble_eq_true rfl) (Nat.le_of_ble_eq_true rfl) (Nat.le_of_ble_eq_true rfl) (Nat.le_of_ble_eq_true rfl) hlocks (Nat.le_of_ble_eq_true rfl) (Nat.le_of_ble_eq_true rfl) (by simp only [th_X5_requireTicks, if_pos c_1]; exact thr_2)
  · skip
    refine lv_iload_n hx hb dX5_requireTicks_5 rfl (lv_at hl 0 rfl) ?_
    refine lv_bipush (v := nI 100) hx hb dX5_requireTicks_6 (by decide) ?_
    refine lv_icmp_le (tgt := 21) hx hb dX5_requireTicks_8 (by decide) (fun c_2 => ?_) (fun c_2 => ?_)
    · skip
      refine W.widen (k := 1) (n := 6) (Nat.le_of_ble_eq_true rfl) (Nat.le_of_ble_eq_true rfl) ?_
      refine vx_ret ?_
      exact g_vret hx hb hr hlocks hP hD hS ⟨(by simp only [th_X5_requireTicks, if_neg c_1, if_pos c_2]), rfl⟩ dX5_requireTicks_21
    · skip
      exact g_throw (own := RX5) (cls := "java/lang/IllegalArgumentException") (text := "ticks are 1 to 100") (names := ["java/lang/RuntimeException", "java/lang/Exception"]) (ik := 30) (is := 233) (ic := 34) hx hb hst hown (by decide +kernel) (by decide +kernel) (hts _ (List.mem_of_getElem? (i := 1) rfl)) (hts _ (List.mem_of_getElem? (i := 2) rfl)) rfl (by decide) hN (fun w h => hts w (List.mem_cons_of_mem _ (List.mem_append_right _ h))) xb_34 xg_34 hX hS hP hD (hl.1.trans hml.symm) dX5_requireTicks_11 dX5_requireTicks_14 dX5_requireTicks_15 dX5_requireTicks_17 dX5_requireTicks_20 ht (Nat.le_of_ble_eq_true rfl) (Nat.le_of_ble_eq_true rfl) (Nat.le_of_ble_eq_true rfl) (Nat.le_of_ble_eq_true rfl) hlocks (Nat.le_of_ble_eq_true rfl) (Nat.le_of_ble_eq_true rfl) (by simp only [th_X5_requireTicks, if_neg c_1, if_neg c_2]; exact thr_2)

def f_X5_oneIf (a : Int32) : Int32 := (if a = 0 then nI 0 else nI 1)
set_option maxHeartbeats 4000000 in
set_option maxRecDepth 100000 in
theorem c_X5_oneIf (l : Launch) (D : va_G) (cs : Nat → ClassId) (ad : Nat → Nat) (I : Mm) (sz : Nat) (a : Int32) (ha : a = 0 ∨ a = 1) : MetI l yX5_oneIf wsX5_oneIf ({ frames := 0, cells := 0, slots := 0, locals := 0 }) kC cs D ad I sz [.int a] (fun r u => r = f_X5_oneIf a ∧ u = I) 0 0 := by
  refine g_met (cc := cX5_oneIf) (maxL := 1) (ret := (some .int)) (by decide) rfl (Nat.le_of_ble_eq_true rfl) ?_
  intro pg e s m args below meth c ls hx hb hr hml hts hown hlocks hsz hP hD hK hN hS hA hl
  have hown : s.vm.findClass RX5 = some m.cls := hown
  have hl : lv_has ls 1 [(0, .int a)] := hl
  refine lv_iload_n hx hb dX5_oneIf_0 rfl (lv_at hl 0 rfl) ?_
  refine lv_if_eq (tgt := 8) hx hb dX5_oneIf_1 (by decide) (fun c_1 => ?_) (fun c_1 => ?_)
  · skip
    refine lv_iconst (v := nI 0) hx hb dX5_oneIf_8 (by decide) ?_
    exact g_iret (v := nI 0) hx hb hr hlocks rfl hP hD hS ⟨(by simp only [f_X5_oneIf, if_pos c_1]), rfl⟩ dX5_oneIf_9
  · skip
    refine lv_iconst (v := nI 1) hx hb dX5_oneIf_4 (by decide) ?_
    refine lv_goto (tgt := 9) hx hb dX5_oneIf_5 (by decide) ?_
    exact g_iret (v := nI 1) hx hb hr hlocks rfl hP hD hS ⟨(by simp only [f_X5_oneIf, if_neg c_1]), rfl⟩ dX5_oneIf_9

/-- the cell of a column and a row -/
def pl (a b : Int32) : Nat := (f_X5_placeOf a b).toNatClampNeg
theorem pl_lt {x : Int32} {n : Nat} (h1 : ¬ x < 0) (h2 : x < nI n) (hn : n < 2 ^ 31) : ∃ j, j < n ∧ x = nI j := by
  obtain ⟨j, hj, e⟩ := nI_of h1
  subst e
  exact ⟨j, (nI_ltI hj hn).mp h2, rfl⟩
theorem pl_all : ∀ x, x < 16 → ∀ y, y < 16 → nI x + nI 16 * nI y = nI (x + 16 * y) := by decide +kernel
theorem pl_in {a b : Int32} (h : th_X5_placeOf a b = 0) : ∃ x y, x < 16 ∧ y < 16 ∧ a = nI x ∧ b = nI y ∧ f_X5_placeOf a b = nI (x + 16 * y) := by
  simp only [th_X5_placeOf] at h
  by_cases h1 : a < 0
  · rw [if_pos h1] at h; cases h
  · by_cases h2 : nI 16 ≤ a
    · rw [if_neg h1, if_pos h2] at h; cases h
    · by_cases h3 : b < 0
      · rw [if_neg h1, if_neg h2, if_pos h3] at h; cases h
      · by_cases h4 : b < nI 16
        · obtain ⟨x, hx, ex⟩ := pl_lt h1 (Int32.not_le.mp h2) (by decide)
          obtain ⟨y, hy, ey⟩ := pl_lt h3 h4 (by decide)
          refine ⟨x, y, hx, hy, ex, ey, ?_⟩
          simp only [f_X5_placeOf]
          rw [if_neg h1, if_neg h2, if_neg h3, if_pos h4, ex, ey]
          exact pl_all x hx y hy
        · rw [if_neg h1, if_neg h2, if_neg h3, if_neg h4] at h; cases h
theorem pl_256 {a b : Int32} (h : th_X5_placeOf a b = 0) : pl a b < 256 := by
  obtain ⟨x, y, hx, hy, -, -, e⟩ := pl_in h
  rw [pl, e, nI_clamp (by omega)]; omega
theorem pl_nI {a b : Int32} (h : th_X5_placeOf a b = 0) : f_X5_placeOf a b = nI (pl a b) := by
  obtain ⟨x, y, hx, hy, -, -, e⟩ := pl_in h
  rw [pl, e, nI_clamp (by omega)]

def th_X5_lay (I : Mm) (k : Nat) (a : Int32) (b : Int32) (c0 : Int32) (N : Nat) : Nat := (if th_X5_placeOf a b = 0 then (if c0 < 0 then 2 else (if c0 ≤ (nI 10) then (if (f_X0_crewAt I (k + 1) (nI (pl a b)) N) ≤ 0 then 0 else 3) else 2)) else (th_X5_placeOf a b))
def f_X5_lay (I : Mm) (k : Nat) (a : Int32) (b : Int32) (c0 : Int32) (N : Nat) : Int32 := (if th_X5_placeOf a b = 0 then (if c0 < 0 then 0 else (if c0 ≤ (nI 10) then (if (f_X0_crewAt I (k + 1) (nI (pl a b)) N) ≤ 0 then f_X3_sortAt I (k + 1 + 1) (nI (pl a b)) else 0) else 0)) else 0)
def m_X5_lay (I : Mm) (k : Nat) (a : Int32) (b : Int32) (c0 : Int32) (N : Nat) : Mm := (if th_X5_placeOf a b = 0 then (if c0 < 0 then I else (if c0 ≤ (nI 10) then (if (f_X0_crewAt I (k + 1) (nI (pl a b)) N) ≤ 0 then (m_X3_put I (k + 1 + 1) (nI (pl a b)) c0) else I) else I)) else I)
set_option maxHeartbeats 4000000 in
set_option maxRecDepth 100000 in
theorem c_X5_lay (l : Launch) (hst : l.stackTraces = false) (D : va_G) (cs : Nat → ClassId) (ad : Nat → Nat) (I : Mm) (sz : Nat) (k : Nat) (hk : kC.getD k 0 = 1) (a : Int32) (b : Int32) (c0 : Int32) (N : Nat) (hw : WT I (k + 1) N) : MetXI l yX5_lay wsX5_lay ({ frames := 7, cells := 2, slots := 12, locals := 103 }) kC cs D ad I sz [.ref (ad k), .int a, .int b, .int c0] (fun r u => th_X5_lay I k a b c0 N = 0 ∧ r = f_X5_lay I k a b c0 N ∧ u = m_X5_lay I k a b c0 N) (thrE (th_X5_lay I k a b c0 N)) 2 12 := by
  refine g_xmet (cc := cX5_lay) (maxL := 6) (ret := (some .int)) (by decide) rfl (Nat.le_of_ble_eq_true rfl) ?_
  intro pg e s m args below meth c ls hx hb hr hml hts hown hlocks hsz hP hD hK hN hS hA hl hX ht
  have hown : s.vm.findClass RX5 = some m.cls := hown
  have hl : lv_has ls 6 [(0, .ref (ad k)), (1, .int a), (2, .int b), (3, .int c0)] := hl
  have hN3 := hw.1
  have hN8 := hw.2.1
  refine lv_iload_n hx hb dX5_lay_0 rfl (lv_at hl 1 rfl) ?_
  refine lv_iload_n hx hb dX5_lay_1 rfl (lv_at hl 2 rfl) ?_
  refine g_xcalli hD hS hA (vx_runS (As := [.int a, .int b]) (rest := []) ⟨hx, hb, hml, hown, hts⟩ (c_X5_placeOf l hst D cs ad I s.heap.size a b) (va_cwS 2 hts gX5_lay_X5_placeOf rfl rfl rfl (by decide +kernel) ⟨Nat.le_of_ble_eq_true rfl, Nat.le_of_ble_eq_true rfl⟩) (g_xpreS hP hD hK hN hX hS hsz) rfl rfl hl.1 rfl (lv_room (Nat.le_of_ble_eq_true rfl)) dX5_lay_2 ⟨Nat.le_of_ble_eq_true rfl, Nat.le_of_ble_eq_true rfl⟩) (fun E ce q9 H locs hth9 hP hD hS hce hcv hcl => ?_) (fun r1 u1 H locs hw1 hP hD hS => ?_)
  · skip
    have c_1 := thrE_ne hth9
    exact g_xout ht hlocks hce hcv hcl hP hD hS (by simp only [th_X5_lay, if_neg c_1]; exact hth9) (Nat.le_of_ble_eq_true rfl) (Nat.le_of_ble_eq_true rfl)
  · skip
    obtain ⟨c_1, hr1, hv1⟩ := hw1
    rw [hv1] at hP hD
    rw [hr1]
    have h256c_1 := pl_256 c_1
    rw [show f_X5_placeOf a b = nI (pl a b) from pl_nI c_1]
    refine lv_istore (lv' := [(4, .int (nI (pl a b))), (0, .ref (ad k)), (1, .int a), (2, .int b), (3, .int c0)]) hx hb dX5_lay_5 hl (by decide) rfl (fun ls hl => ?_)
    refine lv_iload_n hx hb dX5_lay_7 rfl (lv_at hl 4 rfl) ?_
    refine lv_if_lt (tgt := 17) hx hb dX5_lay_8 (by decide) (fun c_2 => ?_) (fun c_2 => ?_)
    · skip
      exact g_throw (own := RX5) (cls := "java/lang/IllegalArgumentException") (text := "no such sort") (names := ["java/lang/RuntimeException", "java/lang/Exception"]) (ik := 30) (is := 32) (ic := 34) hx hb hst hown (by decide +kernel) (by decide +kernel) (hts _ (List.mem_of_getElem? (i := 1) rfl)) (hts _ (List.mem_of_getElem? (i := 2) rfl)) rfl (by decide) hN (fun w h => hts w (List.mem_cons_of_mem _ (List.mem_append_left _ (List.mem_append_left _ (List.mem_append_right _ h))))) xb_34 xg_34 hX hS hP hD (hl.1.trans hml.symm) dX5_lay_17 dX5_lay_20 dX5_lay_21 dX5_lay_23 dX5_lay_26 ht (Nat.le_of_ble_eq_true rfl) (Nat.le_of_ble_eq_true rfl) (Nat.le_of_ble_eq_true rfl) (Nat.le_of_ble_eq_true rfl) hlocks (Nat.le_of_ble_eq_true rfl) (Nat.le_of_ble_eq_true rfl) (by simp only [th_X5_lay, if_pos c_1, if_pos c_2]; exact thr_2)
    · skip
      refine lv_iload_n hx hb dX5_lay_11 rfl (lv_at hl 4 rfl) ?_
      refine lv_bipush (v := nI 10) hx hb dX5_lay_12 (by decide) ?_
      refine lv_icmp_le (tgt := 27) hx hb dX5_lay_14 (by decide) (fun c_3 => ?_) (fun c_3 => ?_)
      · skip
        refine lv_aload_n hx hb dX5_lay_27 rfl (lv_at hl 1 rfl) ?_
        refine g_get (κ := 1) (ci := 5) (v := .ref (ad (k + 1))) (C := RX5) (T := TX5) (N := 3) hx hb hts hown hK hP (k := k) hk (by decide) rfl (fun _ h => List.mem_cons_of_mem _ (List.mem_append_left _ (List.mem_append_left _ (List.mem_append_left _ (List.mem_append_left _ (List.mem_append_left _ (List.mem_append_left _ (List.mem_append_right _ h)))))))) rfl 0 (by decide) (hts _ (List.mem_of_getElem? (i := 5) rfl)) (fun _ h9 => h9) rfl dX5_lay_28 ?_
        refine lv_iload hx hb dX5_lay_31 (lv_at hl 0 rfl) ?_
        refine g_callF (F := f_X0_crewAt I (k + 1) (nI (pl a b)) N) hD hS hA (va_runV (As := [.int (nI (pl a b))]) (rest := []) ⟨hx, hb, hml, hown, hts⟩ (c_X0_crewAt l D cs ad I H.size (k + 1) (kd_1_0 hk) (nI (pl a b)) N hN3 hN8) (cwV 1 hts gX5_lay_X0_crewAt rfl rfl rfl (by decide +kernel) ⟨Nat.le_of_ble_eq_true rfl, Nat.le_of_ble_eq_true rfl⟩) (g_preV hP hD hK hN (k := (k + 1)) (kd_1_0 hk) (by decide) rfl rfl rfl rfl) rfl rfl hl.1 rfl (lv_room (Nat.le_of_ble_eq_true rfl)) dX5_lay_33 ⟨Nat.le_of_ble_eq_true rfl, Nat.le_of_ble_eq_true rfl⟩) (fun H locs hP hD hS => ?_)
        refine lv_if_le (tgt := 49) hx hb dX5_lay_36 (by decide) (fun c_4 => ?_) (fun c_4 => ?_)
        · skip
          refine lv_aload_n hx hb dX5_lay_49 rfl (lv_at hl 1 rfl) ?_
          refine g_get (κ := 1) (ci := 5) (v := .ref (ad (k + 1))) (C := RX5) (T := TX5) (N := 3) hx hb hts hown hK hP (k := k) hk (by decide) rfl (fun _ h => List.mem_cons_of_mem _ (List.mem_append_left _ (List.mem_append_left _ (List.mem_append_left _ (List.mem_append_left _ (List.mem_append_left _ (List.mem_append_left _ (List.mem_append_right _ h)))))))) rfl 0 (by decide) (hts _ (List.mem_of_getElem? (i := 5) rfl)) (fun _ h9 => h9) rfl dX5_lay_50 ?_
          refine g_getN (κ := 2) (ci := 0) (v := .ref (ad (k + 1 + 1))) (C := RX0) (T := TX0) (N := 7) hx hb hts hown hK hP (k := (k + 1)) (kd_1_0 hk) (by decide) rfl (fun _ h => List.mem_cons_of_mem _ (List.mem_append_left _ (List.mem_append_left _ (List.mem_append_left _ (List.mem_append_left _ (List.mem_append_left _ (List.mem_append_right _ h))))))) rfl 0 (by decide) (nwu16 hN) (fun _ h9 => h9) rfl dX5_lay_53 ?_
          refine lv_iload hx hb dX5_lay_56 (lv_at hl 0 rfl) ?_
          refine g_callF (F := f_X3_sortAt I (k + 1 + 1) (nI (pl a b))) hD hS hA (va_runV (As := [.int (nI (pl a b))]) (rest := []) ⟨hx, hb, hml, hown, hts⟩ (c_X3_sortAt l D cs ad I H.size (k + 1 + 1) (kd_2_0 (kd_1_0 hk)) (nI (pl a b))) (cwV 1 hts gX5_lay_X3_sortAt rfl rfl rfl (by decide +kernel) ⟨Nat.le_of_ble_eq_true rfl, Nat.le_of_ble_eq_true rfl⟩) (g_preV hP hD hK hN (k := (k + 1 + 1)) (kd_2_0 (kd_1_0 hk)) (by decide) rfl rfl rfl rfl) rfl rfl hl.1 rfl (lv_room (Nat.le_of_ble_eq_true rfl)) dX5_lay_58 ⟨Nat.le_of_ble_eq_true rfl, Nat.le_of_ble_eq_true rfl⟩) (fun H locs hP hD hS => ?_)
          refine lv_istore (lv' := [(5, .int (f_X3_sortAt I (k + 1 + 1) (nI (pl a b)))), (4, .int (nI (pl a b))), (0, .ref (ad k)), (1, .int a), (2, .int b), (3, .int c0)]) hx hb dX5_lay_61 hl (by decide) rfl (fun ls hl => ?_)
          refine lv_aload_n hx hb dX5_lay_63 rfl (lv_at hl 2 rfl) ?_
          refine g_get (κ := 1) (ci := 5) (v := .ref (ad (k + 1))) (C := RX5) (T := TX5) (N := 3) hx hb hts hown hK hP (k := k) hk (by decide) rfl (fun _ h => List.mem_cons_of_mem _ (List.mem_append_left _ (List.mem_append_left _ (List.mem_append_left _ (List.mem_append_left _ (List.mem_append_left _ (List.mem_append_left _ (List.mem_append_right _ h)))))))) rfl 0 (by decide) (hts _ (List.mem_of_getElem? (i := 5) rfl)) (fun _ h9 => h9) rfl dX5_lay_64 ?_
          refine g_getN (κ := 2) (ci := 0) (v := .ref (ad (k + 1 + 1))) (C := RX0) (T := TX0) (N := 7) hx hb hts hown hK hP (k := (k + 1)) (kd_1_0 hk) (by decide) rfl (fun _ h => List.mem_cons_of_mem _ (List.mem_append_left _ (List.mem_append_left _ (List.mem_append_left _ (List.mem_append_left _ (List.mem_append_left _ (List.mem_append_right _ h))))))) rfl 0 (by decide) (nwu16 hN) (fun _ h9 => h9) rfl dX5_lay_67 ?_
          refine lv_iload hx hb dX5_lay_70 (lv_at hl 1 rfl) ?_
          refine lv_iload_n hx hb dX5_lay_72 rfl (lv_at hl 5 rfl) ?_
          refine g_callM (M := m_X3_put I (k + 1 + 1) (nI (pl a b)) c0) hD hS hA (va_runV (As := [.int (nI (pl a b)), .int c0]) (rest := []) ⟨hx, hb, hml, hown, hts⟩ (c_X3_put l D cs ad I H.size (k + 1 + 1) (kd_2_0 (kd_1_0 hk)) (nI (pl a b)) c0) (cwV 2 hts gX5_lay_X3_put rfl rfl rfl (by decide +kernel) ⟨Nat.le_of_ble_eq_true rfl, Nat.le_of_ble_eq_true rfl⟩) (g_preV hP hD hK hN (k := (k + 1 + 1)) (kd_2_0 (kd_1_0 hk)) (by decide) rfl rfl rfl rfl) rfl rfl hl.1 rfl (lv_room (Nat.le_of_ble_eq_true rfl)) dX5_lay_73 ⟨Nat.le_of_ble_eq_true rfl, Nat.le_of_ble_eq_true rfl⟩) (fun u5 H locs hu5 hP hD hS => ?_)
          refine lv_iload hx hb dX5_lay_76 (lv_at hl 0 rfl) ?_
          refine W.widen (k := 2) (n := 12) (Nat.le_of_ble_eq_true rfl) (Nat.le_of_ble_eq_true rfl) ?_
          refine vx_ret ?_
          exact g_iret (v := f_X3_sortAt I (k + 1 + 1) (nI (pl a b))) hx hb hr hlocks rfl hP hD hS ⟨(by subst hu5; simp only [th_X5_lay, if_pos c_1, if_neg c_2, if_pos c_3, if_pos c_4]), (by subst hu5; simp only [f_X5_lay, if_pos c_1, if_neg c_2, if_pos c_3, if_pos c_4]), (by subst hu5; simp only [m_X5_lay, if_pos c_1, if_neg c_2, if_pos c_3, if_pos c_4])⟩ dX5_lay_78
        · skip
          exact g_throw (own := RX5) (cls := "java/lang/IllegalStateException") (text := "a tunneller is there") (names := ["java/lang/RuntimeException", "java/lang/Exception"]) (ik := 41) (is := 43) (ic := 45) hx hb hst hown (by decide +kernel) (by decide +kernel) (hts _ (List.mem_of_getElem? (i := 3) rfl)) (hts _ (List.mem_of_getElem? (i := 4) rfl)) rfl (by decide) hN (fun w h => hts w (List.mem_cons_of_mem _ (List.mem_append_left _ (List.mem_append_right _ h)))) xb_45 xg_45 hX hS hP hD (hl.1.trans hml.symm) dX5_lay_39 dX5_lay_42 dX5_lay_43 dX5_lay_45 dX5_lay_48 ht (Nat.le_of_ble_eq_true rfl) (Nat.le_of_ble_eq_true rfl) (Nat.le_of_ble_eq_true rfl) (Nat.le_of_ble_eq_true rfl) hlocks (Nat.le_of_ble_eq_true rfl) (Nat.le_of_ble_eq_true rfl) (by simp only [th_X5_lay, if_pos c_1, if_neg c_2, if_pos c_3, if_neg c_4]; exact thr_3)
      · skip
        exact g_throw (own := RX5) (cls := "java/lang/IllegalArgumentException") (text := "no such sort") (names := ["java/lang/RuntimeException", "java/lang/Exception"]) (ik := 30) (is := 32) (ic := 34) hx hb hst hown (by decide +kernel) (by decide +kernel) (hts _ (List.mem_of_getElem? (i := 1) rfl)) (hts _ (List.mem_of_getElem? (i := 2) rfl)) rfl (by decide) hN (fun w h => hts w (List.mem_cons_of_mem _ (List.mem_append_left _ (List.mem_append_left _ (List.mem_append_right _ h))))) xb_34 xg_34 hX hS hP hD (hl.1.trans hml.symm) dX5_lay_17 dX5_lay_20 dX5_lay_21 dX5_lay_23 dX5_lay_26 ht (Nat.le_of_ble_eq_true rfl) (Nat.le_of_ble_eq_true rfl) (Nat.le_of_ble_eq_true rfl) (Nat.le_of_ble_eq_true rfl) hlocks (Nat.le_of_ble_eq_true rfl) (Nat.le_of_ble_eq_true rfl) (by simp only [th_X5_lay, if_pos c_1, if_neg c_2, if_neg c_3]; exact thr_2)

def th_X5_come (I : Mm) (k : Nat) (a : Int32) (b : Int32) (c0 : Int32) (d : Int32) (N : Nat) : Nat := (if th_X5_placeOf a b = 0 then (if c0 < 0 then 2 else (if c0 ≤ (nI 20) then (if d < 0 then 2 else (if d ≤ (nI 9) then (if (f_X3_sortAt I (k + 1 + 1) (nI (pl a b))) = (nI 10) then 3 else (if (f_X0_buriedAt I (k + 1) (nI (pl a b)) N) ≤ 0 then (if (nI N) < (nI 8) then 0 else 3) else 3)) else 2)) else 2)) else (th_X5_placeOf a b))
def f_X5_come (I : Mm) (k : Nat) (a : Int32) (b : Int32) (c0 : Int32) (d : Int32) (N : Nat) : Int32 := (if th_X5_placeOf a b = 0 then (if c0 < 0 then 0 else (if c0 ≤ (nI 20) then (if d < 0 then 0 else (if d ≤ (nI 9) then (if (f_X3_sortAt I (k + 1 + 1) (nI (pl a b))) = (nI 10) then 0 else (if (f_X0_buriedAt I (k + 1) (nI (pl a b)) N) ≤ 0 then (if (nI N) < (nI 8) then f_X0_welcome I (k + 1) (nI (pl a b)) c0 d N else 0) else 0)) else 0)) else 0)) else 0)
def m_X5_come (I : Mm) (k : Nat) (a : Int32) (b : Int32) (c0 : Int32) (d : Int32) (N : Nat) : Mm := (if th_X5_placeOf a b = 0 then (if c0 < 0 then I else (if c0 ≤ (nI 20) then (if d < 0 then I else (if d ≤ (nI 9) then (if (f_X3_sortAt I (k + 1 + 1) (nI (pl a b))) = (nI 10) then I else (if (f_X0_buriedAt I (k + 1) (nI (pl a b)) N) ≤ 0 then (if (nI N) < (nI 8) then (m_X0_welcome I (k + 1) (nI (pl a b)) c0 d N) else I) else I)) else I)) else I)) else I)
set_option maxHeartbeats 4000000 in
set_option maxRecDepth 100000 in
theorem c_X5_come (l : Launch) (hst : l.stackTraces = false) (D : va_G) (cs : Nat → ClassId) (ad : Nat → Nat) (I : Mm) (sz : Nat) (k : Nat) (hk : kC.getD k 0 = 1) (a : Int32) (b : Int32) (c0 : Int32) (d : Int32) (N : Nat) (hw : WT I (k + 1) N) : MetXI l yX5_come wsX5_come ({ frames := 7, cells := 2, slots := 12, locals := 103 }) kC cs D ad I sz [.ref (ad k), .int a, .int b, .int c0, .int d] (fun r u => th_X5_come I k a b c0 d N = 0 ∧ r = f_X5_come I k a b c0 d N ∧ u = m_X5_come I k a b c0 d N) (thrE (th_X5_come I k a b c0 d N)) 2 12 := by
  refine g_xmet (cc := cX5_come) (maxL := 6) (ret := (some .int)) (by decide) rfl (Nat.le_of_ble_eq_true rfl) ?_
  intro pg e s m args below meth c ls hx hb hr hml hts hown hlocks hsz hP hD hK hN hS hA hl hX ht
  have hown : s.vm.findClass RX5 = some m.cls := hown
  have hl : lv_has ls 6 [(0, .ref (ad k)), (1, .int a), (2, .int b), (3, .int c0), (4, .int d)] := hl
  have hN3 := hw.1
  have hN8 := hw.2.1
  refine lv_iload_n hx hb dX5_come_0 rfl (lv_at hl 1 rfl) ?_
  refine lv_iload_n hx hb dX5_come_1 rfl (lv_at hl 2 rfl) ?_
  refine g_xcalli hD hS hA (vx_runS (As := [.int a, .int b]) (rest := []) ⟨hx, hb, hml, hown, hts⟩ (c_X5_placeOf l hst D cs ad I s.heap.size a b) (va_cwS 2 hts gX5_come_X5_placeOf rfl rfl rfl (by decide +kernel) ⟨Nat.le_of_ble_eq_true rfl, Nat.le_of_ble_eq_true rfl⟩) (g_xpreS hP hD hK hN hX hS hsz) rfl rfl hl.1 rfl (lv_room (Nat.le_of_ble_eq_true rfl)) dX5_come_2 ⟨Nat.le_of_ble_eq_true rfl, Nat.le_of_ble_eq_true rfl⟩) (fun E ce q9 H locs hth9 hP hD hS hce hcv hcl => ?_) (fun r1 u1 H locs hw1 hP hD hS => ?_)
  · skip
    have c_1 := thrE_ne hth9
    exact g_xout ht hlocks hce hcv hcl hP hD hS (by simp only [th_X5_come, if_neg c_1]; exact hth9) (Nat.le_of_ble_eq_true rfl) (Nat.le_of_ble_eq_true rfl)
  · skip
    obtain ⟨c_1, hr1, hv1⟩ := hw1
    rw [hv1] at hP hD
    rw [hr1]
    have h256c_1 := pl_256 c_1
    rw [show f_X5_placeOf a b = nI (pl a b) from pl_nI c_1]
    refine lv_istore (lv' := [(5, .int (nI (pl a b))), (0, .ref (ad k)), (1, .int a), (2, .int b), (3, .int c0), (4, .int d)]) hx hb dX5_come_5 hl (by decide) rfl (fun ls hl => ?_)
    refine lv_iload_n hx hb dX5_come_7 rfl (lv_at hl 4 rfl) ?_
    refine lv_if_lt (tgt := 17) hx hb dX5_come_8 (by decide) (fun c_2 => ?_) (fun c_2 => ?_)
    · skip
      exact g_throw (own := RX5) (cls := "java/lang/IllegalArgumentException") (text := "posts are 0 to 20") (names := ["java/lang/RuntimeException", "java/lang/Exception"]) (ik := 30) (is := 81) (ic := 34) hx hb hst hown (by decide +kernel) (by decide +kernel) (hts _ (List.mem_of_getElem? (i := 1) rfl)) (hts _ (List.mem_of_getElem? (i := 2) rfl)) rfl (by decide) hN (fun w h => hts w (List.mem_cons_of_mem _ (List.mem_append_left _ (List.mem_append_left _ (List.mem_append_right _ h))))) xb_34 xg_34 hX hS hP hD (hl.1.trans hml.symm) dX5_come_17 dX5_come_20 dX5_come_21 dX5_come_23 dX5_come_26 ht (Nat.le_of_ble_eq_true rfl) (Nat.le_of_ble_eq_true rfl) (Nat.le_of_ble_eq_true rfl) (Nat.le_of_ble_eq_true rfl) hlocks (Nat.le_of_ble_eq_true rfl) (Nat.le_of_ble_eq_true rfl) (by simp only [th_X5_come, if_pos c_1, if_pos c_2]; exact thr_2)
    · skip
      refine lv_iload_n hx hb dX5_come_11 rfl (lv_at hl 4 rfl) ?_
      refine lv_bipush (v := nI 20) hx hb dX5_come_12 (by decide) ?_
      refine lv_icmp_le (tgt := 27) hx hb dX5_come_14 (by decide) (fun c_3 => ?_) (fun c_3 => ?_)
      · skip
        refine lv_iload hx hb dX5_come_27 (lv_at hl 5 rfl) ?_
        refine lv_if_lt (tgt := 39) hx hb dX5_come_29 (by decide) (fun c_4 => ?_) (fun c_4 => ?_)
        · skip
          exact g_throw (own := RX5) (cls := "java/lang/IllegalArgumentException") (text := "lamps are 0 to 9") (names := ["java/lang/RuntimeException", "java/lang/Exception"]) (ik := 30) (is := 83) (ic := 34) hx hb hst hown (by decide +kernel) (by decide +kernel) (hts _ (List.mem_of_getElem? (i := 1) rfl)) (hts _ (List.mem_of_getElem? (i := 2) rfl)) rfl (by decide) hN (fun w h => hts w (List.mem_cons_of_mem _ (List.mem_append_left _ (List.mem_append_left _ (List.mem_append_right _ h))))) xb_34 xg_34 hX hS hP hD (hl.1.trans hml.symm) dX5_come_39 dX5_come_42 dX5_come_43 dX5_come_45 dX5_come_48 ht (Nat.le_of_ble_eq_true rfl) (Nat.le_of_ble_eq_true rfl) (Nat.le_of_ble_eq_true rfl) (Nat.le_of_ble_eq_true rfl) hlocks (Nat.le_of_ble_eq_true rfl) (Nat.le_of_ble_eq_true rfl) (by simp only [th_X5_come, if_pos c_1, if_neg c_2, if_pos c_3, if_pos c_4]; exact thr_2)
        · skip
          refine lv_iload hx hb dX5_come_32 (lv_at hl 5 rfl) ?_
          refine lv_bipush (v := nI 9) hx hb dX5_come_34 (by decide) ?_
          refine lv_icmp_le (tgt := 49) hx hb dX5_come_36 (by decide) (fun c_5 => ?_) (fun c_5 => ?_)
          · skip
            refine lv_aload_n hx hb dX5_come_49 rfl (lv_at hl 1 rfl) ?_
            refine g_get (κ := 1) (ci := 5) (v := .ref (ad (k + 1))) (C := RX5) (T := TX5) (N := 3) hx hb hts hown hK hP (k := k) hk (by decide) rfl (fun _ h => List.mem_cons_of_mem _ (List.mem_append_left _ (List.mem_append_left _ (List.mem_append_left _ (List.mem_append_left _ (List.mem_append_left _ (List.mem_append_left _ (List.mem_append_right _ h)))))))) rfl 0 (by decide) (hts _ (List.mem_of_getElem? (i := 5) rfl)) (fun _ h9 => h9) rfl dX5_come_50 ?_
            refine g_getN (κ := 2) (ci := 0) (v := .ref (ad (k + 1 + 1))) (C := RX0) (T := TX0) (N := 7) hx hb hts hown hK hP (k := (k + 1)) (kd_1_0 hk) (by decide) rfl (fun _ h => List.mem_cons_of_mem _ (List.mem_append_left _ (List.mem_append_left _ (List.mem_append_left _ (List.mem_append_left _ (List.mem_append_left _ (List.mem_append_right _ h))))))) rfl 0 (by decide) (nwu16 hN) (fun _ h9 => h9) rfl dX5_come_53 ?_
            refine lv_iload hx hb dX5_come_56 (lv_at hl 0 rfl) ?_
            refine g_callF (F := f_X3_sortAt I (k + 1 + 1) (nI (pl a b))) hD hS hA (va_runV (As := [.int (nI (pl a b))]) (rest := []) ⟨hx, hb, hml, hown, hts⟩ (c_X3_sortAt l D cs ad I H.size (k + 1 + 1) (kd_2_0 (kd_1_0 hk)) (nI (pl a b))) (cwV 1 hts gX5_come_X3_sortAt rfl rfl rfl (by decide +kernel) ⟨Nat.le_of_ble_eq_true rfl, Nat.le_of_ble_eq_true rfl⟩) (g_preV hP hD hK hN (k := (k + 1 + 1)) (kd_2_0 (kd_1_0 hk)) (by decide) rfl rfl rfl rfl) rfl rfl hl.1 rfl (lv_room (Nat.le_of_ble_eq_true rfl)) dX5_come_58 ⟨Nat.le_of_ble_eq_true rfl, Nat.le_of_ble_eq_true rfl⟩) (fun H locs hP hD hS => ?_)
            refine lv_bipush (v := nI 10) hx hb dX5_come_61 (by decide) ?_
            refine lv_icmp_eq (tgt := 78) hx hb dX5_come_63 (by decide) (fun c_6 => ?_) (fun c_6 => ?_)
            · skip
              exact g_throw (own := RX5) (cls := "java/lang/IllegalStateException") (text := "nobody can come there") (names := ["java/lang/RuntimeException", "java/lang/Exception"]) (ik := 41) (is := 88) (ic := 45) hx hb hst hown (by decide +kernel) (by decide +kernel) (hts _ (List.mem_of_getElem? (i := 3) rfl)) (hts _ (List.mem_of_getElem? (i := 4) rfl)) rfl (by decide) hN (fun w h => hts w (List.mem_cons_of_mem _ (List.mem_append_left _ (List.mem_append_right _ h)))) xb_45 xg_45 hX hS hP hD (hl.1.trans hml.symm) dX5_come_78 dX5_come_81 dX5_come_82 dX5_come_84 dX5_come_87 ht (Nat.le_of_ble_eq_true rfl) (Nat.le_of_ble_eq_true rfl) (Nat.le_of_ble_eq_true rfl) (Nat.le_of_ble_eq_true rfl) hlocks (Nat.le_of_ble_eq_true rfl) (Nat.le_of_ble_eq_true rfl) (by simp only [th_X5_come, if_pos c_1, if_neg c_2, if_pos c_3, if_neg c_4, if_pos c_5, if_pos c_6]; exact thr_3)
            · skip
              refine lv_aload_n hx hb dX5_come_66 rfl (lv_at hl 1 rfl) ?_
              refine g_get (κ := 1) (ci := 5) (v := .ref (ad (k + 1))) (C := RX5) (T := TX5) (N := 3) hx hb hts hown hK hP (k := k) hk (by decide) rfl (fun _ h => List.mem_cons_of_mem _ (List.mem_append_left _ (List.mem_append_left _ (List.mem_append_left _ (List.mem_append_left _ (List.mem_append_left _ (List.mem_append_left _ (List.mem_append_right _ h)))))))) rfl 0 (by decide) (hts _ (List.mem_of_getElem? (i := 5) rfl)) (fun _ h9 => h9) rfl dX5_come_67 ?_
              refine lv_iload hx hb dX5_come_70 (lv_at hl 0 rfl) ?_
              refine g_callF (F := f_X0_buriedAt I (k + 1) (nI (pl a b)) N) hD hS hA (va_runV (As := [.int (nI (pl a b))]) (rest := []) ⟨hx, hb, hml, hown, hts⟩ (c_X0_buriedAt l D cs ad I H.size (k + 1) (kd_1_0 hk) (nI (pl a b)) N hN3 hN8) (cwV 1 hts gX5_come_X0_buriedAt rfl rfl rfl (by decide +kernel) ⟨Nat.le_of_ble_eq_true rfl, Nat.le_of_ble_eq_true rfl⟩) (g_preV hP hD hK hN (k := (k + 1)) (kd_1_0 hk) (by decide) rfl rfl rfl rfl) rfl rfl hl.1 rfl (lv_room (Nat.le_of_ble_eq_true rfl)) dX5_come_72 ⟨Nat.le_of_ble_eq_true rfl, Nat.le_of_ble_eq_true rfl⟩) (fun H locs hP hD hS => ?_)
              refine lv_if_le (tgt := 88) hx hb dX5_come_75 (by decide) (fun c_7 => ?_) (fun c_7 => ?_)
              · skip
                refine lv_aload_n hx hb dX5_come_88 rfl (lv_at hl 1 rfl) ?_
                refine g_get (κ := 1) (ci := 5) (v := .ref (ad (k + 1))) (C := RX5) (T := TX5) (N := 3) hx hb hts hown hK hP (k := k) hk (by decide) rfl (fun _ h => List.mem_cons_of_mem _ (List.mem_append_left _ (List.mem_append_left _ (List.mem_append_left _ (List.mem_append_left _ (List.mem_append_left _ (List.mem_append_left _ (List.mem_append_right _ h)))))))) rfl 0 (by decide) (hts _ (List.mem_of_getElem? (i := 5) rfl)) (fun _ h9 => h9) rfl dX5_come_89 ?_
                refine g_getN (κ := 2) (ci := 0) (v := .int (I (k + 1) 3)) (C := RX0) (T := TX0) (N := 7) hx hb hts hown hK hP (k := (k + 1)) (kd_1_0 hk) (by decide) rfl (fun _ h => List.mem_cons_of_mem _ (List.mem_append_left _ (List.mem_append_left _ (List.mem_append_left _ (List.mem_append_left _ (List.mem_append_left _ (List.mem_append_right _ h))))))) rfl 3 (by decide) (nwu17 hN) (fun _ h9 => h9) rfl dX5_come_92 ?_
                rw [show I (k + 1) 3 = nI N from hN3]
                refine lv_bipush (v := nI 8) hx hb dX5_come_95 (by decide) ?_
                refine lv_icmp_lt (tgt := 110) hx hb dX5_come_97 (by decide) (fun c_8 => ?_) (fun c_8 => ?_)
                · skip
                  have nc_8 : N < 8 := (nI_ltI (a := N) (b := 8) (by omega) (by omega)).mp c_8
                  refine lv_aload_n hx hb dX5_come_110 rfl (lv_at hl 1 rfl) ?_
                  refine g_get (κ := 1) (ci := 5) (v := .ref (ad (k + 1))) (C := RX5) (T := TX5) (N := 3) hx hb hts hown hK hP (k := k) hk (by decide) rfl (fun _ h => List.mem_cons_of_mem _ (List.mem_append_left _ (List.mem_append_left _ (List.mem_append_left _ (List.mem_append_left _ (List.mem_append_left _ (List.mem_append_left _ (List.mem_append_right _ h)))))))) rfl 0 (by decide) (hts _ (List.mem_of_getElem? (i := 5) rfl)) (fun _ h9 => h9) rfl dX5_come_111 ?_
                  refine lv_iload hx hb dX5_come_114 (lv_at hl 0 rfl) ?_
                  refine lv_iload_n hx hb dX5_come_116 rfl (lv_at hl 4 rfl) ?_
                  refine lv_iload hx hb dX5_come_117 (lv_at hl 5 rfl) ?_
                  refine g_callFM (F := f_X0_welcome I (k + 1) (nI (pl a b)) c0 d N) (M := m_X0_welcome I (k + 1) (nI (pl a b)) c0 d N) hD hS hA (va_runV (As := [.int (nI (pl a b)), .int c0, .int d]) (rest := []) ⟨hx, hb, hml, hown, hts⟩ (c_X0_welcome l D cs ad I H.size (k + 1) (kd_1_0 hk) (nI (pl a b)) c0 d N hN3 hN8) (cwV 3 hts gX5_come_X0_welcome rfl rfl rfl (by decide +kernel) ⟨Nat.le_of_ble_eq_true rfl, Nat.le_of_ble_eq_true rfl⟩) (g_preV hP hD hK hN (k := (k + 1)) (kd_1_0 hk) (by decide) rfl rfl rfl rfl) rfl rfl hl.1 rfl (lv_room (Nat.le_of_ble_eq_true rfl)) dX5_come_119 ⟨Nat.le_of_ble_eq_true rfl, Nat.le_of_ble_eq_true rfl⟩) (fun u9 H locs hu9 hP hD hS => ?_)
                  refine W.widen (k := 2) (n := 12) (Nat.le_of_ble_eq_true rfl) (Nat.le_of_ble_eq_true rfl) ?_
                  refine vx_ret ?_
                  exact g_iret (v := f_X0_welcome I (k + 1) (nI (pl a b)) c0 d N) hx hb hr hlocks rfl hP hD hS ⟨(by subst hu9; simp only [th_X5_come, if_pos c_1, if_neg c_2, if_pos c_3, if_neg c_4, if_pos c_5, if_neg c_6, if_pos c_7, if_pos c_8]), (by subst hu9; simp only [f_X5_come, if_pos c_1, if_neg c_2, if_pos c_3, if_neg c_4, if_pos c_5, if_neg c_6, if_pos c_7, if_pos c_8]), (by subst hu9; simp only [m_X5_come, if_pos c_1, if_neg c_2, if_pos c_3, if_neg c_4, if_pos c_5, if_neg c_6, if_pos c_7, if_pos c_8])⟩ dX5_come_122
                · skip
                  have nc_8 : ¬ N < 8 := fun z9_ => c_8 ((nI_ltI (a := N) (b := 8) (by omega) (by omega)).mpr z9_)
                  exact g_throw (own := RX5) (cls := "java/lang/IllegalStateException") (text := "there are 8 tunnellers") (names := ["java/lang/RuntimeException", "java/lang/Exception"]) (ik := 41) (is := 94) (ic := 45) hx hb hst hown (by decide +kernel) (by decide +kernel) (hts _ (List.mem_of_getElem? (i := 3) rfl)) (hts _ (List.mem_of_getElem? (i := 4) rfl)) rfl (by decide) hN (fun w h => hts w (List.mem_cons_of_mem _ (List.mem_append_left _ (List.mem_append_right _ h)))) xb_45 xg_45 hX hS hP hD (hl.1.trans hml.symm) dX5_come_100 dX5_come_103 dX5_come_104 dX5_come_106 dX5_come_109 ht (Nat.le_of_ble_eq_true rfl) (Nat.le_of_ble_eq_true rfl) (Nat.le_of_ble_eq_true rfl) (Nat.le_of_ble_eq_true rfl) hlocks (Nat.le_of_ble_eq_true rfl) (Nat.le_of_ble_eq_true rfl) (by simp only [th_X5_come, if_pos c_1, if_neg c_2, if_pos c_3, if_neg c_4, if_pos c_5, if_neg c_6, if_pos c_7, if_neg c_8]; exact thr_3)
              · skip
                exact g_throw (own := RX5) (cls := "java/lang/IllegalStateException") (text := "nobody can come there") (names := ["java/lang/RuntimeException", "java/lang/Exception"]) (ik := 41) (is := 88) (ic := 45) hx hb hst hown (by decide +kernel) (by decide +kernel) (hts _ (List.mem_of_getElem? (i := 3) rfl)) (hts _ (List.mem_of_getElem? (i := 4) rfl)) rfl (by decide) hN (fun w h => hts w (List.mem_cons_of_mem _ (List.mem_append_left _ (List.mem_append_right _ h)))) xb_45 xg_45 hX hS hP hD (hl.1.trans hml.symm) dX5_come_78 dX5_come_81 dX5_come_82 dX5_come_84 dX5_come_87 ht (Nat.le_of_ble_eq_true rfl) (Nat.le_of_ble_eq_true rfl) (Nat.le_of_ble_eq_true rfl) (Nat.le_of_ble_eq_true rfl) hlocks (Nat.le_of_ble_eq_true rfl) (Nat.le_of_ble_eq_true rfl) (by simp only [th_X5_come, if_pos c_1, if_neg c_2, if_pos c_3, if_neg c_4, if_pos c_5, if_neg c_6, if_neg c_7]; exact thr_3)
          · skip
            exact g_throw (own := RX5) (cls := "java/lang/IllegalArgumentException") (text := "lamps are 0 to 9") (names := ["java/lang/RuntimeException", "java/lang/Exception"]) (ik := 30) (is := 83) (ic := 34) hx hb hst hown (by decide +kernel) (by decide +kernel) (hts _ (List.mem_of_getElem? (i := 1) rfl)) (hts _ (List.mem_of_getElem? (i := 2) rfl)) rfl (by decide) hN (fun w h => hts w (List.mem_cons_of_mem _ (List.mem_append_left _ (List.mem_append_left _ (List.mem_append_right _ h))))) xb_34 xg_34 hX hS hP hD (hl.1.trans hml.symm) dX5_come_39 dX5_come_42 dX5_come_43 dX5_come_45 dX5_come_48 ht (Nat.le_of_ble_eq_true rfl) (Nat.le_of_ble_eq_true rfl) (Nat.le_of_ble_eq_true rfl) (Nat.le_of_ble_eq_true rfl) hlocks (Nat.le_of_ble_eq_true rfl) (Nat.le_of_ble_eq_true rfl) (by simp only [th_X5_come, if_pos c_1, if_neg c_2, if_pos c_3, if_neg c_4, if_neg c_5]; exact thr_2)
      · skip
        exact g_throw (own := RX5) (cls := "java/lang/IllegalArgumentException") (text := "posts are 0 to 20") (names := ["java/lang/RuntimeException", "java/lang/Exception"]) (ik := 30) (is := 81) (ic := 34) hx hb hst hown (by decide +kernel) (by decide +kernel) (hts _ (List.mem_of_getElem? (i := 1) rfl)) (hts _ (List.mem_of_getElem? (i := 2) rfl)) rfl (by decide) hN (fun w h => hts w (List.mem_cons_of_mem _ (List.mem_append_left _ (List.mem_append_left _ (List.mem_append_right _ h))))) xb_34 xg_34 hX hS hP hD (hl.1.trans hml.symm) dX5_come_17 dX5_come_20 dX5_come_21 dX5_come_23 dX5_come_26 ht (Nat.le_of_ble_eq_true rfl) (Nat.le_of_ble_eq_true rfl) (Nat.le_of_ble_eq_true rfl) (Nat.le_of_ble_eq_true rfl) hlocks (Nat.le_of_ble_eq_true rfl) (Nat.le_of_ble_eq_true rfl) (by simp only [th_X5_come, if_pos c_1, if_neg c_2, if_neg c_3]; exact thr_2)
