def f_X6_thrown (I : Mm) (k : Nat) : Int32 := I k 0
set_option maxHeartbeats 4000000 in
set_option maxRecDepth 100000 in
theorem c_X6_thrown (l : Launch) (D : va_G) (cs : Nat → ClassId) (ad : Nat → Nat) (I : Mm) (sz : Nat) (k : Nat) (hk : kM.getD k 0 = 10) : MetI l yX6_thrown wsX6_thrown ({ frames := 0, cells := 0, slots := 0, locals := 0 }) kM cs D ad I sz [.ref (ad k)] (fun r u => r = f_X6_thrown I k ∧ u = I) 0 0 := by
  refine g_met (cc := cX6_thrown) (maxL := 1) (ret := (some .int)) (by decide) rfl (Nat.le_of_ble_eq_true rfl) ?_
  intro pg e s m args below meth c ls hx hb hr hml hts hown hlocks hsz hP hD hK hN hS hA hl
  have hown : s.vm.findClass RX6 = some m.cls := hown
  have hl : lv_has ls 1 [(0, .ref (ad k))] := hl
  refine lv_aload_n hx hb dX6_thrown_0 rfl (lv_at hl 0 rfl) ?_
  refine g_get (κ := 10) (ci := 6) (v := .int (I k 0)) (C := RX6) (T := TX6) (N := 8) hx hb hts hown hK hP (k := k) hk (by decide) rfl (fun _ h => List.mem_cons_of_mem _ (List.mem_append_right _ h)) rfl 0 (by decide) (hts _ (List.mem_of_getElem? (i := 1) rfl)) (fun _ h9 => h9) rfl dX6_thrown_1 ?_
  exact g_iret (v := I k 0) hx hb hr hlocks rfl hP hD hS ⟨(by simp only [f_X6_thrown]), rfl⟩ dX6_thrown_4

def f_X6_fail (I : Mm) (k : Nat) (a : Int32) : Int32 := nI 0
def m_X6_fail (I : Mm) (k : Nat) (a : Int32) : Mm := (wr I k 0 a)
set_option maxHeartbeats 4000000 in
set_option maxRecDepth 100000 in
theorem c_X6_fail (l : Launch) (D : va_G) (cs : Nat → ClassId) (ad : Nat → Nat) (I : Mm) (sz : Nat) (k : Nat) (hk : kM.getD k 0 = 10) (a : Int32) : MetI l yX6_fail wsX6_fail ({ frames := 0, cells := 0, slots := 0, locals := 0 }) kM cs D ad I sz [.ref (ad k), .int a] (fun r u => r = f_X6_fail I k a ∧ u = m_X6_fail I k a) 0 0 := by
  refine g_met (cc := cX6_fail) (maxL := 2) (ret := (some .int)) (by decide) rfl (Nat.le_of_ble_eq_true rfl) ?_
  intro pg e s m args below meth c ls hx hb hr hml hts hown hlocks hsz hP hD hK hN hS hA hl
  have hown : s.vm.findClass RX6 = some m.cls := hown
  have hl : lv_has ls 2 [(0, .ref (ad k)), (1, .int a)] := hl
  refine lv_aload_n hx hb dX6_fail_0 rfl (lv_at hl 0 rfl) ?_
  refine lv_iload_n hx hb dX6_fail_1 rfl (lv_at hl 1 rfl) ?_
  refine g_put (κ := 10) (ci := 6) (v := a) (ty := .int) (C := RX6) (T := TX6) (N := 8) hx hb hts hown hK hP hD hS (k := k) hk (by decide) rfl (fun _ h => List.mem_cons_of_mem _ (List.mem_append_right _ h)) tyX6 tyX6_ok nmX6 rfl 0 (by decide) (hts _ (List.mem_of_getElem? (i := 1) rfl)) (fun _ h9 => h9) rfl (by decide +kernel) rfl rfl (Nat.le_of_ble_eq_true rfl) rfl dX6_fail_2 (fun u1 H locs hu1 hP hD hS => ?_)
  refine lv_iconst (v := nI 0) hx hb dX6_fail_5 (by decide) ?_
  exact g_iret (v := nI 0) hx hb hr hlocks rfl hP hD hS ⟨(by subst hu1; simp only [f_X6_fail, m_X6_fail]), (by subst hu1; simp only [f_X6_fail, m_X6_fail])⟩ dX6_fail_6

def f_X6_isIn (a : Int32) (b : Int32) (c0 : Int32) : Int32 := (if a < b then nI 0 else (if c0 < a then nI 0 else nI 1))
set_option maxHeartbeats 4000000 in
set_option maxRecDepth 100000 in
theorem c_X6_isIn (l : Launch) (D : va_G) (cs : Nat → ClassId) (ad : Nat → Nat) (I : Mm) (sz : Nat) (a : Int32) (b : Int32) (c0 : Int32) : MetI l yX6_isIn wsX6_isIn ({ frames := 0, cells := 0, slots := 0, locals := 0 }) kM cs D ad I sz [.int a, .int b, .int c0] (fun r u => r = f_X6_isIn a b c0 ∧ u = I) 0 0 := by
  refine g_met (cc := cX6_isIn) (maxL := 3) (ret := (some .boolean)) (by decide) rfl (Nat.le_of_ble_eq_true rfl) ?_
  intro pg e s m args below meth c ls hx hb hr hml hts hown hlocks hsz hP hD hK hN hS hA hl
  have hown : s.vm.findClass RX6 = some m.cls := hown
  have hl : lv_has ls 3 [(0, .int a), (1, .int b), (2, .int c0)] := hl
  refine lv_iload_n hx hb dX6_isIn_0 rfl (lv_at hl 0 rfl) ?_
  refine lv_iload_n hx hb dX6_isIn_1 rfl (lv_at hl 1 rfl) ?_
  refine lv_icmp_lt (tgt := 14) hx hb dX6_isIn_2 (by decide) (fun c_1 => ?_) (fun c_1 => ?_)
  · skip
    refine lv_iconst (v := nI 0) hx hb dX6_isIn_14 (by decide) ?_
    exact g_iret (v := nI 0) hx hb hr hlocks rfl hP hD hS ⟨(by simp only [f_X6_isIn, if_pos c_1]), rfl⟩ dX6_isIn_15
  · skip
    refine lv_iload_n hx hb dX6_isIn_5 rfl (lv_at hl 0 rfl) ?_
    refine lv_iload_n hx hb dX6_isIn_6 rfl (lv_at hl 2 rfl) ?_
    refine lv_icmp_gt (tgt := 14) hx hb dX6_isIn_7 (by decide) (fun c_2 => ?_) (fun c_2 => ?_)
    · skip
      refine lv_iconst (v := nI 0) hx hb dX6_isIn_14 (by decide) ?_
      exact g_iret (v := nI 0) hx hb hr hlocks rfl hP hD hS ⟨(by simp only [f_X6_isIn, if_neg c_1, if_pos c_2]), rfl⟩ dX6_isIn_15
    · skip
      refine lv_iconst (v := nI 1) hx hb dX6_isIn_10 (by decide) ?_
      refine lv_goto (tgt := 15) hx hb dX6_isIn_11 (by decide) ?_
      exact g_iret (v := nI 1) hx hb hr hlocks rfl hP hD hS ⟨(by simp only [f_X6_isIn, if_neg c_1, if_neg c_2]), rfl⟩ dX6_isIn_15

theorem isIn_bo (a b c : Int32) : f_X6_isIn a b c = 0 ∨ f_X6_isIn a b c = 1 := by
  simp only [f_X6_isIn]
  repeat' split
  all_goals first | exact Or.inl rfl | exact Or.inr rfl

def f_X6_isCell (a : Int32) (b : Int32) : Int32 := (if (f_X6_isIn a (nI 0) (nI 15)) = 0 then nI 0 else (if (f_X6_isIn b (nI 0) (nI 15)) = 0 then nI 0 else nI 1))
set_option maxHeartbeats 4000000 in
set_option maxRecDepth 100000 in
theorem c_X6_isCell (l : Launch) (D : va_G) (cs : Nat → ClassId) (ad : Nat → Nat) (I : Mm) (sz : Nat) (a : Int32) (b : Int32) : MetI l yX6_isCell wsX6_isCell ({ frames := 1, cells := 0, slots := 0, locals := 22 }) kM cs D ad I sz [.int a, .int b] (fun r u => r = f_X6_isCell a b ∧ u = I) 0 0 := by
  refine g_met (cc := cX6_isCell) (maxL := 2) (ret := (some .boolean)) (by decide) rfl (Nat.le_of_ble_eq_true rfl) ?_
  intro pg e s m args below meth c ls hx hb hr hml hts hown hlocks hsz hP hD hK hN hS hA hl
  have hown : s.vm.findClass RX6 = some m.cls := hown
  have hl : lv_has ls 2 [(0, .int a), (1, .int b)] := hl
  refine lv_iload_n hx hb dX6_isCell_0 rfl (lv_at hl 0 rfl) ?_
  refine lv_iconst (v := nI 0) hx hb dX6_isCell_1 (by decide) ?_
  refine lv_bipush (v := nI 15) hx hb dX6_isCell_2 (by decide) ?_
  refine g_callF (F := f_X6_isIn a (nI 0) (nI 15)) hD hS hA (va_runS (As := [.int a, .int (nI 0), .int (nI 15)]) (rest := []) ⟨hx, hb, hml, hown, hts⟩ (c_X6_isIn l D cs ad I s.heap.size a (nI 0) (nI 15)) (va_cwS 3 hts gX6_isCell_X6_isIn rfl rfl rfl (by decide +kernel) ⟨Nat.le_of_ble_eq_true rfl, Nat.le_of_ble_eq_true rfl⟩) (g_preS hP hD hK hN) rfl rfl hl.1 rfl (lv_room (Nat.le_of_ble_eq_true rfl)) dX6_isCell_4 ⟨Nat.le_of_ble_eq_true rfl, Nat.le_of_ble_eq_true rfl⟩) (fun H locs hP hD hS => ?_)
  refine lv_if_eq (tgt := 24) hx hb dX6_isCell_7 (by decide) (fun c_1 => ?_) (fun c_1 => ?_)
  · skip
    refine lv_iconst (v := nI 0) hx hb dX6_isCell_24 (by decide) ?_
    exact g_iret (v := nI 0) hx hb hr hlocks rfl hP hD hS ⟨(by simp only [f_X6_isCell, if_pos c_1]), rfl⟩ dX6_isCell_25
  · skip
    refine lv_iload_n hx hb dX6_isCell_10 rfl (lv_at hl 1 rfl) ?_
    refine lv_iconst (v := nI 0) hx hb dX6_isCell_11 (by decide) ?_
    refine lv_bipush (v := nI 15) hx hb dX6_isCell_12 (by decide) ?_
    refine g_callF (F := f_X6_isIn b (nI 0) (nI 15)) hD hS hA (va_runS (As := [.int b, .int (nI 0), .int (nI 15)]) (rest := []) ⟨hx, hb, hml, hown, hts⟩ (c_X6_isIn l D cs ad I H.size b (nI 0) (nI 15)) (va_cwS 3 hts gX6_isCell_X6_isIn rfl rfl rfl (by decide +kernel) ⟨Nat.le_of_ble_eq_true rfl, Nat.le_of_ble_eq_true rfl⟩) (g_preS hP hD hK hN) rfl rfl hl.1 rfl (lv_room (Nat.le_of_ble_eq_true rfl)) dX6_isCell_14 ⟨Nat.le_of_ble_eq_true rfl, Nat.le_of_ble_eq_true rfl⟩) (fun H locs hP hD hS => ?_)
    refine lv_if_eq (tgt := 24) hx hb dX6_isCell_17 (by decide) (fun c_2 => ?_) (fun c_2 => ?_)
    · skip
      refine lv_iconst (v := nI 0) hx hb dX6_isCell_24 (by decide) ?_
      exact g_iret (v := nI 0) hx hb hr hlocks rfl hP hD hS ⟨(by simp only [f_X6_isCell, if_neg c_1, if_pos c_2]), rfl⟩ dX6_isCell_25
    · skip
      refine lv_iconst (v := nI 1) hx hb dX6_isCell_20 (by decide) ?_
      refine lv_goto (tgt := 25) hx hb dX6_isCell_21 (by decide) ?_
      exact g_iret (v := nI 1) hx hb hr hlocks rfl hP hD hS ⟨(by simp only [f_X6_isCell, if_neg c_1, if_neg c_2]), rfl⟩ dX6_isCell_25

def f_X6_isMan (I : Mm) (k : Nat) (a : Int32) (N : Nat) : Int32 := f_X6_isIn a (nI 0) ((nI N) - (nI 1))
set_option maxHeartbeats 4000000 in
set_option maxRecDepth 100000 in
theorem c_X6_isMan (l : Launch) (D : va_G) (cs : Nat → ClassId) (ad : Nat → Nat) (I : Mm) (sz : Nat) (k : Nat) (hk : kM.getD k 0 = 10) (a : Int32) (N : Nat) (hNm : I k 6 = nI N) : MetI l yX6_isMan wsX6_isMan ({ frames := 1, cells := 0, slots := 0, locals := 22 }) kM cs D ad I sz [.ref (ad k), .int a] (fun r u => r = f_X6_isMan I k a N ∧ u = I) 0 0 := by
  refine g_met (cc := cX6_isMan) (maxL := 2) (ret := (some .boolean)) (by decide) rfl (Nat.le_of_ble_eq_true rfl) ?_
  intro pg e s m args below meth c ls hx hb hr hml hts hown hlocks hsz hP hD hK hN hS hA hl
  have hown : s.vm.findClass RX6 = some m.cls := hown
  have hl : lv_has ls 2 [(0, .ref (ad k)), (1, .int a)] := hl
  refine lv_iload_n hx hb dX6_isMan_0 rfl (lv_at hl 1 rfl) ?_
  refine lv_iconst (v := nI 0) hx hb dX6_isMan_1 (by decide) ?_
  refine lv_aload_n hx hb dX6_isMan_2 rfl (lv_at hl 0 rfl) ?_
  refine g_get (κ := 10) (ci := 6) (v := .int (I k 6)) (C := RX6) (T := TX6) (N := 8) hx hb hts hown hK hP (k := k) hk (by decide) rfl (fun _ h => List.mem_cons_of_mem _ (List.mem_append_right _ h)) rfl 6 (by decide) (hts _ (List.mem_of_getElem? (i := 1) rfl)) (fun _ h9 => h9) rfl dX6_isMan_3 ?_
  rw [show I k 6 = (nI N) from hNm]
  refine lv_iconst (v := nI 1) hx hb dX6_isMan_6 (by decide) ?_
  refine lv_isub hx hb dX6_isMan_7 ?_
  refine g_callF (F := f_X6_isIn a (nI 0) ((nI N) - (nI 1))) hD hS hA (va_runS (As := [.int a, .int (nI 0), .int ((nI N) - (nI 1))]) (rest := []) ⟨hx, hb, hml, hown, hts⟩ (c_X6_isIn l D cs ad I s.heap.size a (nI 0) ((nI N) - (nI 1))) (va_cwS 3 hts gX6_isMan_X6_isIn rfl rfl rfl (by decide +kernel) ⟨Nat.le_of_ble_eq_true rfl, Nat.le_of_ble_eq_true rfl⟩) (g_preS hP hD hK hN) rfl rfl hl.1 rfl (lv_room (Nat.le_of_ble_eq_true rfl)) dX6_isMan_8 ⟨Nat.le_of_ble_eq_true rfl, Nat.le_of_ble_eq_true rfl⟩) (fun H locs hP hD hS => ?_)
  exact g_iret (v := f_X6_isIn a (nI 0) ((nI N) - (nI 1))) hx hb hr hlocks (bo_nar (isIn_bo _ _ _)) hP hD hS ⟨(by simp only [f_X6_isMan]), rfl⟩ dX6_isMan_11

set_option maxHeartbeats 4000000 in
set_option maxRecDepth 100000 in
theorem c_X6_get (l : Launch) (D : va_G) (cs : Nat → ClassId) (ad : Nat → Nat) (I : Mm) (sz : Nat) (k : Nat) (hk : kM.getD k 0 = 10) (mn : Nat) (hmn : mn < 8) (w : Nat) (hw : w < 31) : MetI l yX6_get wsX6_get ({ frames := 0, cells := 0, slots := 0, locals := 0 }) kM cs D ad I sz [.ref (ad k), .int (nI mn), .int (nI w)] (fun r u => r = I (k + 4) (31 * mn + w) ∧ u = I) 0 0 := by
  refine g_met (cc := cX6_get) (maxL := 3) (ret := (some .int)) (by decide) rfl (Nat.le_of_ble_eq_true rfl) ?_
  intro pg e s m args below meth c ls hx hb hr hml hts hown hlocks hsz hP hD hK hN hS hA hl
  have hown : s.vm.findClass RX6 = some m.cls := hown
  have hl : lv_has ls 3 [(0, .ref (ad k)), (1, .int (nI mn)), (2, .int (nI w))] := hl
  refine lv_aload_n hx hb dX6_get_0 rfl (lv_at hl 0 rfl) ?_
  refine g_get (κ := 10) (ci := 6) (v := .ref (ad (k + 4))) (C := RX6) (T := TX6) (N := 8) hx hb hts hown hK hP (k := k) hk (by decide) rfl (fun _ h => List.mem_cons_of_mem _ (List.mem_append_right _ h)) rfl 4 (by decide) (hts _ (List.mem_of_getElem? (i := 1) rfl)) (fun _ h9 => h9) rfl dX6_get_1 ?_
  refine lv_bipush (v := nI 31) hx hb dX6_get_4 (by decide) ?_
  refine lv_iload_n hx hb dX6_get_6 rfl (lv_at hl 1 rfl) ?_
  refine lv_imul hx hb dX6_get_7 ?_
  rw [pk_mul 31 mn]
  refine lv_iload_n hx hb dX6_get_8 rfl (lv_at hl 2 rfl) ?_
  refine lv_iadd hx hb dX6_get_9 ?_
  rw [nI_add (31 * mn) w]
  refine g_ialdn (n := 248) (i := ((31 * mn) + w)) hx hb hK hP (k := (k + 4)) (kd_10_4 hk) (by decide) rfl (by omega) (by decide) dX6_get_10 ?_
  exact g_iret (v := I (k + 4) ((31 * mn) + w)) hx hb hr hlocks rfl hP hD hS ⟨rfl, rfl⟩ dX6_get_11

set_option maxHeartbeats 4000000 in
set_option maxRecDepth 100000 in
theorem c_X6_set (l : Launch) (D : va_G) (cs : Nat → ClassId) (ad : Nat → Nat) (I : Mm) (sz : Nat) (k : Nat) (hk : kM.getD k 0 = 10) (mn : Nat) (hmn : mn < 8) (w : Nat) (hw : w < 31) (b : Int32) : MetN l yX6_set wsX6_set ({ frames := 0, cells := 0, slots := 0, locals := 0 }) kM cs D ad I sz [.ref (ad k), .int (nI mn), .int (nI w), .int b] (fun u => u = wr I (k + 4) (31 * mn + w) b) 0 0 := by
  refine g_met (cc := cX6_set) (maxL := 4) (ret := none) (by decide) rfl (Nat.le_of_ble_eq_true rfl) ?_
  intro pg e s m args below meth c ls hx hb hr hml hts hown hlocks hsz hP hD hK hN hS hA hl
  have hown : s.vm.findClass RX6 = some m.cls := hown
  have hl : lv_has ls 4 [(0, .ref (ad k)), (1, .int (nI mn)), (2, .int (nI w)), (3, .int b)] := hl
  refine lv_aload_n hx hb dX6_set_0 rfl (lv_at hl 0 rfl) ?_
  refine g_get (κ := 10) (ci := 6) (v := .ref (ad (k + 4))) (C := RX6) (T := TX6) (N := 8) hx hb hts hown hK hP (k := k) hk (by decide) rfl (fun _ h => List.mem_cons_of_mem _ (List.mem_append_right _ h)) rfl 4 (by decide) (hts _ (List.mem_of_getElem? (i := 1) rfl)) (fun _ h9 => h9) rfl dX6_set_1 ?_
  refine lv_bipush (v := nI 31) hx hb dX6_set_4 (by decide) ?_
  refine lv_iload_n hx hb dX6_set_6 rfl (lv_at hl 1 rfl) ?_
  refine lv_imul hx hb dX6_set_7 ?_
  rw [pk_mul 31 mn]
  refine lv_iload_n hx hb dX6_set_8 rfl (lv_at hl 2 rfl) ?_
  refine lv_iadd hx hb dX6_set_9 ?_
  rw [nI_add (31 * mn) w]
  refine lv_iload_n hx hb dX6_set_10 rfl (lv_at hl 3 rfl) ?_
  refine g_iastn (n := 248) (i := ((31 * mn) + w)) hx hb hK hP hD hS (k := (k + 4)) (kd_10_4 hk) (by decide) (fun _ => rfl) (by omega) (by decide) dX6_set_11 (fun u1 H locs hu1 hP hD hS => ?_)
  exact g_vret hx hb hr hlocks hP hD hS hu1 dX6_set_12

set_option maxHeartbeats 4000000 in
set_option maxRecDepth 100000 in
theorem c_X6_add (l : Launch) (D : va_G) (cs : Nat → ClassId) (ad : Nat → Nat) (I : Mm) (sz : Nat) (k : Nat) (hk : kM.getD k 0 = 10) (mn : Nat) (hmn : mn < 8) (w : Nat) (hw : w < 31) (b : Int32) : MetN l yX6_add wsX6_add ({ frames := 0, cells := 0, slots := 0, locals := 0 }) kM cs D ad I sz [.ref (ad k), .int (nI mn), .int (nI w), .int b] (fun u => u = wr I (k + 4) (31 * mn + w) (I (k + 4) (31 * mn + w) + b)) 0 0 := by
  refine g_met (cc := cX6_add) (maxL := 4) (ret := none) (by decide) rfl (Nat.le_of_ble_eq_true rfl) ?_
  intro pg e s m args below meth c ls hx hb hr hml hts hown hlocks hsz hP hD hK hN hS hA hl
  have hown : s.vm.findClass RX6 = some m.cls := hown
  have hl : lv_has ls 4 [(0, .ref (ad k)), (1, .int (nI mn)), (2, .int (nI w)), (3, .int b)] := hl
  refine lv_aload_n hx hb dX6_add_0 rfl (lv_at hl 0 rfl) ?_
  refine g_get (κ := 10) (ci := 6) (v := .ref (ad (k + 4))) (C := RX6) (T := TX6) (N := 8) hx hb hts hown hK hP (k := k) hk (by decide) rfl (fun _ h => List.mem_cons_of_mem _ (List.mem_append_right _ h)) rfl 4 (by decide) (hts _ (List.mem_of_getElem? (i := 1) rfl)) (fun _ h9 => h9) rfl dX6_add_1 ?_
  refine lv_bipush (v := nI 31) hx hb dX6_add_4 (by decide) ?_
  refine lv_iload_n hx hb dX6_add_6 rfl (lv_at hl 1 rfl) ?_
  refine lv_imul hx hb dX6_add_7 ?_
  rw [pk_mul 31 mn]
  refine lv_iload_n hx hb dX6_add_8 rfl (lv_at hl 2 rfl) ?_
  refine lv_iadd hx hb dX6_add_9 ?_
  rw [nI_add (31 * mn) w]
  refine lv_dup2_11 hx hb dX6_add_10 rfl rfl ?_
  refine g_ialdn (n := 248) (i := ((31 * mn) + w)) hx hb hK hP (k := (k + 4)) (kd_10_4 hk) (by decide) rfl (by omega) (by decide) dX6_add_11 ?_
  refine lv_iload_n hx hb dX6_add_12 rfl (lv_at hl 3 rfl) ?_
  refine lv_iadd hx hb dX6_add_13 ?_
  refine g_iastn (n := 248) (i := ((31 * mn) + w)) hx hb hK hP hD hS (k := (k + 4)) (kd_10_4 hk) (by decide) (fun _ => rfl) (by omega) (by decide) dX6_add_14 (fun u1 H locs hu1 hP hD hS => ?_)
  exact g_vret hx hb hr hlocks hP hD hS hu1 dX6_add_15

def f_X6_isFree (I : Mm) (k : Nat) (mn : Nat) : Int32 := (if (I (k + 4) (31 * mn + 4)) = 0 then nI 1 else nI 0)
set_option maxHeartbeats 4000000 in
set_option maxRecDepth 100000 in
theorem c_X6_isFree (l : Launch) (D : va_G) (cs : Nat → ClassId) (ad : Nat → Nat) (I : Mm) (sz : Nat) (k : Nat) (hk : kM.getD k 0 = 10) (mn : Nat) (hmn : mn < 8) : MetI l yX6_isFree wsX6_isFree ({ frames := 1, cells := 0, slots := 0, locals := 22 }) kM cs D ad I sz [.ref (ad k), .int (nI mn)] (fun r u => r = f_X6_isFree I k mn ∧ u = I) 0 0 := by
  refine g_met (cc := cX6_isFree) (maxL := 2) (ret := (some .boolean)) (by decide) rfl (Nat.le_of_ble_eq_true rfl) ?_
  intro pg e s m args below meth c ls hx hb hr hml hts hown hlocks hsz hP hD hK hN hS hA hl
  have hown : s.vm.findClass RX6 = some m.cls := hown
  have hl : lv_has ls 2 [(0, .ref (ad k)), (1, .int (nI mn))] := hl
  refine lv_aload_n hx hb dX6_isFree_0 rfl (lv_at hl 0 rfl) ?_
  refine lv_iload_n hx hb dX6_isFree_1 rfl (lv_at hl 1 rfl) ?_
  refine lv_iconst (v := nI 4) hx hb dX6_isFree_2 (by decide) ?_
  refine g_callF (F := I (k + 4) (31 * mn + 4)) hD hS hA (va_runV (As := [.int (nI mn), .int (nI 4)]) (rest := []) ⟨hx, hb, hml, hown, hts⟩ (c_X6_get l D cs ad I s.heap.size k hk mn (by omega) 4 (by omega)) (cwV 2 hts gX6_isFree_X6_get rfl rfl rfl (by decide +kernel) ⟨Nat.le_of_ble_eq_true rfl, Nat.le_of_ble_eq_true rfl⟩) (g_preV hP hD hK hN (k := k) hk (by decide) rfl rfl rfl rfl) rfl rfl hl.1 rfl (lv_room (Nat.le_of_ble_eq_true rfl)) dX6_isFree_3 ⟨Nat.le_of_ble_eq_true rfl, Nat.le_of_ble_eq_true rfl⟩) (fun H locs hP hD hS => ?_)
  refine lv_if_ne (tgt := 13) hx hb dX6_isFree_6 (by decide) (fun c_1 => ?_) (fun c_1 => ?_)
  · skip
    refine lv_iconst (v := nI 0) hx hb dX6_isFree_13 (by decide) ?_
    exact g_iret (v := nI 0) hx hb hr hlocks rfl hP hD hS ⟨(by simp only [f_X6_isFree, if_neg c_1]), rfl⟩ dX6_isFree_14
  · skip
    refine lv_iconst (v := nI 1) hx hb dX6_isFree_9 (by decide) ?_
    refine lv_goto (tgt := 14) hx hb dX6_isFree_10 (by decide) ?_
    exact g_iret (v := nI 1) hx hb hr hlocks rfl hP hD hS ⟨(by simp only [f_X6_isFree, if_pos c_1]), rfl⟩ dX6_isFree_14

def f_X6_isOpen (I : Mm) (k : Nat) (c0 : Nat) : Int32 := (if (I (k + 1) c0) = 0 then nI 1 else nI 0)
set_option maxHeartbeats 4000000 in
set_option maxRecDepth 100000 in
theorem c_X6_isOpen (l : Launch) (D : va_G) (cs : Nat → ClassId) (ad : Nat → Nat) (I : Mm) (sz : Nat) (k : Nat) (hk : kM.getD k 0 = 10) (c0 : Nat) (hc0 : c0 < 256) : MetI l yX6_isOpen wsX6_isOpen ({ frames := 0, cells := 0, slots := 0, locals := 0 }) kM cs D ad I sz [.ref (ad k), .int (nI c0)] (fun r u => r = f_X6_isOpen I k c0 ∧ u = I) 0 0 := by
  refine g_met (cc := cX6_isOpen) (maxL := 2) (ret := (some .boolean)) (by decide) rfl (Nat.le_of_ble_eq_true rfl) ?_
  intro pg e s m args below meth c ls hx hb hr hml hts hown hlocks hsz hP hD hK hN hS hA hl
  have hown : s.vm.findClass RX6 = some m.cls := hown
  have hl : lv_has ls 2 [(0, .ref (ad k)), (1, .int (nI c0))] := hl
  refine lv_aload_n hx hb dX6_isOpen_0 rfl (lv_at hl 0 rfl) ?_
  refine g_get (κ := 10) (ci := 6) (v := .ref (ad (k + 1))) (C := RX6) (T := TX6) (N := 8) hx hb hts hown hK hP (k := k) hk (by decide) rfl (fun _ h => List.mem_cons_of_mem _ (List.mem_append_right _ h)) rfl 1 (by decide) (hts _ (List.mem_of_getElem? (i := 1) rfl)) (fun _ h9 => h9) rfl dX6_isOpen_1 ?_
  refine lv_iload_n hx hb dX6_isOpen_4 rfl (lv_at hl 1 rfl) ?_
  refine g_ialdn (n := 256) (i := c0) hx hb hK hP (k := (k + 1)) (kd_10_1 hk) (by decide) rfl (by omega) (by decide) dX6_isOpen_5 ?_
  refine lv_if_ne (tgt := 13) hx hb dX6_isOpen_6 (by decide) (fun c_1 => ?_) (fun c_1 => ?_)
  · skip
    refine lv_iconst (v := nI 0) hx hb dX6_isOpen_13 (by decide) ?_
    exact g_iret (v := nI 0) hx hb hr hlocks rfl hP hD hS ⟨(by simp only [f_X6_isOpen, if_neg c_1]), rfl⟩ dX6_isOpen_14
  · skip
    refine lv_iconst (v := nI 1) hx hb dX6_isOpen_9 (by decide) ?_
    refine lv_goto (tgt := 14) hx hb dX6_isOpen_10 (by decide) ?_
    exact g_iret (v := nI 1) hx hb hr hlocks rfl hP hD hS ⟨(by simp only [f_X6_isOpen, if_pos c_1]), rfl⟩ dX6_isOpen_14

def f_X6_beside (a : Int32) (b : Int32) : Int32 := (if b = nI 0 then (if (nI 16) ≤ a then a - (nI 16) else -1) else (if b = nI 1 then (if (a - a / (nI 16) * (nI 16)) = (nI 15) then -1 else a + (nI 1)) else (if b = nI 2 then (if a < (nI 240) then a + (nI 16) else -1) else (if (a - a / (nI 16) * (nI 16)) = 0 then -1 else a - (nI 1)))))
set_option maxHeartbeats 4000000 in
set_option maxRecDepth 100000 in
theorem c_X6_beside (l : Launch) (D : va_G) (cs : Nat → ClassId) (ad : Nat → Nat) (I : Mm) (sz : Nat) (a : Int32) (b : Int32) : MetI l yX6_beside wsX6_beside ({ frames := 0, cells := 0, slots := 0, locals := 0 }) kM cs D ad I sz [.int a, .int b] (fun r u => r = f_X6_beside a b ∧ u = I) 0 0 := by
  refine g_met (cc := cX6_beside) (maxL := 2) (ret := (some .int)) (by decide) rfl (Nat.le_of_ble_eq_true rfl) ?_
  intro pg e s m args below meth c ls hx hb hr hml hts hown hlocks hsz hP hD hK hN hS hA hl
  have hown : s.vm.findClass RX6 = some m.cls := hown
  have hl : lv_has ls 2 [(0, .int a), (1, .int b)] := hl
  refine lv_iload_n hx hb dX6_beside_0 rfl (lv_at hl 1 rfl) ?_
  by_cases c_1 : b = nI 0
  · skip
    refine lv_tableIn (tgt := 28) (off := 27) hx hb dX6_beside_1 (by rw [c_1]; decide) (by rw [c_1]; decide) (by rw [c_1]; decide) (by decide) ?_
    refine lv_iload_n hx hb dX6_beside_28 rfl (lv_at hl 0 rfl) ?_
    refine lv_bipush (v := nI 16) hx hb dX6_beside_29 (by decide) ?_
    refine lv_icmp_ge (tgt := 38) hx hb dX6_beside_31 (by decide) (fun c_2 => ?_) (fun c_2 => ?_)
    · skip
      refine lv_iload_n hx hb dX6_beside_38 rfl (lv_at hl 0 rfl) ?_
      refine lv_bipush (v := nI 16) hx hb dX6_beside_39 (by decide) ?_
      refine lv_isub hx hb dX6_beside_41 ?_
      exact g_iret (v := a - (nI 16)) hx hb hr hlocks rfl hP hD hS ⟨(by simp only [f_X6_beside, if_pos c_1, if_pos c_2]), rfl⟩ dX6_beside_42
    · skip
      refine lv_iconst (v := -1) hx hb dX6_beside_34 (by decide) ?_
      refine lv_goto (tgt := 42) hx hb dX6_beside_35 (by decide) ?_
      exact g_iret (v := -1) hx hb hr hlocks rfl hP hD hS ⟨(by simp only [f_X6_beside, if_pos c_1, if_neg c_2]), rfl⟩ dX6_beside_42
  · skip
    by_cases c_3 : b = nI 1
    · skip
      refine lv_tableIn (tgt := 43) (off := 42) hx hb dX6_beside_1 (by rw [c_3]; decide) (by rw [c_3]; decide) (by rw [c_3]; decide) (by decide) ?_
      refine lv_iload_n hx hb dX6_beside_43 rfl (lv_at hl 0 rfl) ?_
      refine lv_bipush (v := nI 16) hx hb dX6_beside_44 (by decide) ?_
      refine lv_irem hx hb dX6_beside_46 (by decide) ?_
      refine lv_bipush (v := nI 15) hx hb dX6_beside_47 (by decide) ?_
      refine lv_icmp_ne (tgt := 56) hx hb dX6_beside_49 (by decide) (fun c_4 => ?_) (fun c_4 => ?_)
      · skip
        refine lv_iload_n hx hb dX6_beside_56 rfl (lv_at hl 0 rfl) ?_
        refine lv_iconst (v := nI 1) hx hb dX6_beside_57 (by decide) ?_
        refine lv_iadd hx hb dX6_beside_58 ?_
        exact g_iret (v := a + (nI 1)) hx hb hr hlocks rfl hP hD hS ⟨(by simp only [f_X6_beside, if_neg c_1, if_pos c_3, if_neg c_4]), rfl⟩ dX6_beside_59
      · skip
        refine lv_iconst (v := -1) hx hb dX6_beside_52 (by decide) ?_
        refine lv_goto (tgt := 59) hx hb dX6_beside_53 (by decide) ?_
        exact g_iret (v := -1) hx hb hr hlocks rfl hP hD hS ⟨(by simp only [f_X6_beside, if_neg c_1, if_pos c_3, if_pos c_4]), rfl⟩ dX6_beside_59
    · skip
      by_cases c_5 : b = nI 2
      · skip
        refine lv_tableIn (tgt := 60) (off := 59) hx hb dX6_beside_1 (by rw [c_5]; decide) (by rw [c_5]; decide) (by rw [c_5]; decide) (by decide) ?_
        refine lv_iload_n hx hb dX6_beside_60 rfl (lv_at hl 0 rfl) ?_
        refine lv_sipush (v := nI 240) hx hb dX6_beside_61 (by decide) ?_
        refine lv_icmp_lt (tgt := 71) hx hb dX6_beside_64 (by decide) (fun c_6 => ?_) (fun c_6 => ?_)
        · skip
          refine lv_iload_n hx hb dX6_beside_71 rfl (lv_at hl 0 rfl) ?_
          refine lv_bipush (v := nI 16) hx hb dX6_beside_72 (by decide) ?_
          refine lv_iadd hx hb dX6_beside_74 ?_
          exact g_iret (v := a + (nI 16)) hx hb hr hlocks rfl hP hD hS ⟨(by simp only [f_X6_beside, if_neg c_1, if_neg c_3, if_pos c_5, if_pos c_6]), rfl⟩ dX6_beside_75
        · skip
          refine lv_iconst (v := -1) hx hb dX6_beside_67 (by decide) ?_
          refine lv_goto (tgt := 75) hx hb dX6_beside_68 (by decide) ?_
          exact g_iret (v := -1) hx hb hr hlocks rfl hP hD hS ⟨(by simp only [f_X6_beside, if_neg c_1, if_neg c_3, if_pos c_5, if_neg c_6]), rfl⟩ dX6_beside_75
      · skip
        have ho : ∀ j : Nat, j ≤ 2 → b ≠ nI j := by
          intro j hj
          rcases (show j = 0 ∨ j = 1 ∨ j = 2 from by omega) with rfl | rfl | rfl
          · exact c_1
          · exact c_3
          · exact c_5
        refine lv_tableOut (tgt := 76) hx hb dX6_beside_1 (tsw (n := 2) (by decide) ho) (by decide) ?_
        refine lv_iload_n hx hb dX6_beside_76 rfl (lv_at hl 0 rfl) ?_
        refine lv_bipush (v := nI 16) hx hb dX6_beside_77 (by decide) ?_
        refine lv_irem hx hb dX6_beside_79 (by decide) ?_
        refine lv_if_ne (tgt := 87) hx hb dX6_beside_80 (by decide) (fun c_7 => ?_) (fun c_7 => ?_)
        · skip
          refine lv_iload_n hx hb dX6_beside_87 rfl (lv_at hl 0 rfl) ?_
          refine lv_iconst (v := nI 1) hx hb dX6_beside_88 (by decide) ?_
          refine lv_isub hx hb dX6_beside_89 ?_
          exact g_iret (v := a - (nI 1)) hx hb hr hlocks rfl hP hD hS ⟨(by simp only [f_X6_beside, if_neg c_1, if_neg c_3, if_neg c_5, if_neg c_7]), rfl⟩ dX6_beside_90
        · skip
          refine lv_iconst (v := -1) hx hb dX6_beside_83 (by decide) ?_
          refine lv_goto (tgt := 90) hx hb dX6_beside_84 (by decide) ?_
          exact g_iret (v := -1) hx hb hr hlocks rfl hP hD hS ⟨(by simp only [f_X6_beside, if_neg c_1, if_neg c_3, if_neg c_5, if_pos c_7]), rfl⟩ dX6_beside_90

theorem besM : ∀ p, p < 256 → ∀ w, w < 4 → f_X6_beside (nI p) (nI w) = if nb p w < 256 then nI (nb p w) else -1 := by decide +kernel

def nrM (a b : Int32) : Nat → Bool
  | 0 => decide (a = b)
  | n + 1 => nrM a b n || decide (f_X6_beside a (nI n) = b)
theorem nrM_t {a b : Int32} {n : Nat} (h : nrM a b n = true) : nrM a b (n + 1) = true := by simp [nrM, h]
theorem nrM_c {a b : Int32} {n : Nat} (h : nrM a b n = false) : nrM a b (n + 1) = decide (f_X6_beside a (nI n) = b) := by simp [nrM, h]
def f_X6_isNear (a b : Int32) : Int32 := bi (nrM a b 4)

set_option maxHeartbeats 4000000 in
set_option maxRecDepth 100000 in
theorem c_X6_isNear (l : Launch) (D : va_G) (cs : Nat → ClassId) (ad : Nat → Nat) (I : Mm) (sz : Nat) (a : Int32) (b : Int32) : MetI l yX6_isNear wsX6_isNear ({ frames := 1, cells := 0, slots := 0, locals := 21 }) kM cs D ad I sz [.int a, .int b] (fun r u => r = f_X6_isNear a b ∧ u = I) 0 0 := by
  refine g_met (cc := cX6_isNear) (maxL := 4) (ret := (some .boolean)) (by decide) rfl (Nat.le_of_ble_eq_true rfl) ?_
  intro pg e s m args below meth c ls hx hb hr hml hts hown hlocks hsz hP hD hK hN hS hA hl
  have hown : s.vm.findClass RX6 = some m.cls := hown
  have hl : lv_has ls 4 [(0, .int a), (1, .int b)] := hl
  refine lv_iload_n hx hb dX6_isNear_0 rfl (lv_at hl 0 rfl) ?_
  refine lv_iload_n hx hb dX6_isNear_1 rfl (lv_at hl 1 rfl) ?_
  refine lv_icmp_ne (tgt := 9) hx hb dX6_isNear_2 (by decide) (fun c_1 => ?_) (fun c_1 => ?_)
  · skip
    refine lv_iconst (v := nI 0) hx hb dX6_isNear_9 (by decide) ?_
    refine lv_istore_n (lv' := [(2, .int (nI 0)), (0, .int a), (1, .int b)]) hx hb dX6_isNear_10 rfl hl (by decide) rfl (fun ls hl => ?_)
    refine lv_iconst (v := nI 0) hx hb dX6_isNear_11 (by decide) ?_
    refine lv_istore_n (lv' := [(3, .int (nI 0)), (2, .int (nI 0)), (0, .int a), (1, .int b)]) hx hb dX6_isNear_12 rfl hl (by decide) rfl (fun ls hl => ?_)
    suffices KL13 : ∀ (fuel : Nat) (i : Nat) (f : Int32) (H : Heap) (locs : List Loc) (ls : Array Slot), (i ≤ 4) → (f = bi (nrM a b i)) → 4 - i < fuel → va_P D vwCl (gw kM cs ad I) H → va_D (gA kM ad sz) (gw kM cs ad I) → va_S (gA kM ad sz) s.heap H locs → lv_has ls 4 [(3, .int (nI i)), (2, .int f), (0, .int a), (1, .int b)] → W pg l e ({ frames := 1, cells := 0, slots := 0, locals := 21 }) s m args below meth c H locs 0 0 (MQ below (va_Qi (fun r u => r = f_X6_isNear a b ∧ u = I) (wat kM cs D ad (gA kM ad sz)) (gA kM ad sz)) args s 0 0 (gA kM ad sz)) (F0 m 13 ls []) from KL13 _ 0 (nI 0) _ _ _ (by omega) (by simp [nrM, bi, c_1]) (Nat.lt_succ_self _) hP hD hS (lv_sub hl [0, 1, 2, 3] rfl)
    intro fuel13
    induction fuel13 with
    | zero => intro _ _ _ _ _ _ _ hm; exact absurd hm (Nat.not_lt_zero _)
    | succ fuel13 ih13 =>
      intro i f H locs ls hi hf hm13 hP hD hS hl
      refine lv_iload_n hx hb dX6_isNear_13 rfl (lv_at hl 0 rfl) ?_
      refine lv_iconst (v := nI 4) hx hb dX6_isNear_14 (by decide) ?_
      refine lv_icmp_ge (tgt := 43) hx hb dX6_isNear_15 (by decide) (fun c_2 => ?_) (fun c_2 => ?_)
      · skip
        have nc_2 : 4 ≤ i := (nI_leI (a := 4) (b := i) (by omega) (by omega)).mp c_2
        refine lv_iload_n hx hb dX6_isNear_43 rfl (lv_at hl 1 rfl) ?_
        exact g_iret (v := f) hx hb hr hlocks (by rw [hf]; exact bi_nar _) hP hD hS ⟨by rw [hf, show i = 4 from by omega]; rfl, rfl⟩ dX6_isNear_44
      · skip
        have nc_2 : ¬ 4 ≤ i := fun z9_ => c_2 ((nI_leI (a := 4) (b := i) (by omega) (by omega)).mpr z9_)
        refine lv_iload_n hx hb dX6_isNear_18 rfl (lv_at hl 1 rfl) ?_
        refine lv_if_ne (tgt := 31) hx hb dX6_isNear_19 (by decide) (fun c_3 => ?_) (fun c_3 => ?_)
        · skip
          refine lv_iconst (v := nI 1) hx hb dX6_isNear_31 (by decide) ?_
          refine lv_goto (tgt := 36) hx hb dX6_isNear_32 (by decide) ?_
          refine lv_istore_n (lv' := [(2, .int (nI 1)), (3, .int (nI i)), (0, .int a), (1, .int b)]) hx hb dX6_isNear_36 rfl hl (by decide) rfl (fun ls hl => ?_)
          refine lv_iinc (v := nI (i + 1)) (lv' := [(3, .int (nI (i + 1))), (2, .int (nI 1)), (0, .int a), (1, .int b)]) hx hb dX6_isNear_37 hl (k := 1) rfl (nI_1 i) (by decide) rfl (fun ls hl => ?_)
          refine lv_goto (tgt := 13) hx hb dX6_isNear_40 (by decide) ?_
          exact ih13 (i + 1) (nI 1) _ _ _ (by omega) (by rw [nrM_t (bi_ne (by rw [← hf]; exact c_3))]; rfl) (by omega) hP hD hS (lv_sub hl [0, 1, 2, 3] rfl)
        · skip
          refine lv_iload_n hx hb dX6_isNear_22 rfl (lv_at hl 2 rfl) ?_
          refine lv_iload_n hx hb dX6_isNear_23 rfl (lv_at hl 0 rfl) ?_
          refine g_callF (F := f_X6_beside a (nI i)) hD hS hA (va_runS (As := [.int a, .int (nI i)]) (rest := []) ⟨hx, hb, hml, hown, hts⟩ (c_X6_beside l D cs ad I H.size a (nI i)) (va_cwS 2 hts gX6_isNear_X6_beside rfl rfl rfl (by decide +kernel) ⟨Nat.le_of_ble_eq_true rfl, Nat.le_of_ble_eq_true rfl⟩) (g_preS hP hD hK hN) rfl rfl hl.1 rfl (lv_room (Nat.le_of_ble_eq_true rfl)) dX6_isNear_24 ⟨Nat.le_of_ble_eq_true rfl, Nat.le_of_ble_eq_true rfl⟩) (fun H locs hP hD hS => ?_)
          refine lv_iload_n hx hb dX6_isNear_27 rfl (lv_at hl 3 rfl) ?_
          refine lv_icmp_ne (tgt := 35) hx hb dX6_isNear_28 (by decide) (fun c_4 => ?_) (fun c_4 => ?_)
          · skip
            refine lv_iconst (v := nI 0) hx hb dX6_isNear_35 (by decide) ?_
            refine lv_istore_n (lv' := [(2, .int (nI 0)), (3, .int (nI i)), (0, .int a), (1, .int b)]) hx hb dX6_isNear_36 rfl hl (by decide) rfl (fun ls hl => ?_)
            refine lv_iinc (v := nI (i + 1)) (lv' := [(3, .int (nI (i + 1))), (2, .int (nI 0)), (0, .int a), (1, .int b)]) hx hb dX6_isNear_37 hl (k := 1) rfl (nI_1 i) (by decide) rfl (fun ls hl => ?_)
            refine lv_goto (tgt := 13) hx hb dX6_isNear_40 (by decide) ?_
            exact ih13 (i + 1) (nI 0) _ _ _ (by omega) (by rw [nrM_c (bi_eq (by rw [← hf]; exact c_3)), decide_eq_false (p := f_X6_beside a (nI i) = b) c_4]; rfl) (by omega) hP hD hS (lv_sub hl [0, 1, 2, 3] rfl)
          · skip
            refine lv_iconst (v := nI 1) hx hb dX6_isNear_31 (by decide) ?_
            refine lv_goto (tgt := 36) hx hb dX6_isNear_32 (by decide) ?_
            refine lv_istore_n (lv' := [(2, .int (nI 1)), (3, .int (nI i)), (0, .int a), (1, .int b)]) hx hb dX6_isNear_36 rfl hl (by decide) rfl (fun ls hl => ?_)
            refine lv_iinc (v := nI (i + 1)) (lv' := [(3, .int (nI (i + 1))), (2, .int (nI 1)), (0, .int a), (1, .int b)]) hx hb dX6_isNear_37 hl (k := 1) rfl (nI_1 i) (by decide) rfl (fun ls hl => ?_)
            refine lv_goto (tgt := 13) hx hb dX6_isNear_40 (by decide) ?_
            exact ih13 (i + 1) (nI 1) _ _ _ (by omega) (by rw [nrM_c (bi_eq (by rw [← hf]; exact c_3)), decide_eq_true (p := f_X6_beside a (nI i) = b) c_4]; rfl) (by omega) hP hD hS (lv_sub hl [0, 1, 2, 3] rfl)
  · skip
    refine lv_iconst (v := nI 1) hx hb dX6_isNear_5 (by decide) ?_
    refine lv_goto (tgt := 10) hx hb dX6_isNear_6 (by decide) ?_
    refine lv_istore_n (lv' := [(2, .int (nI 1)), (0, .int a), (1, .int b)]) hx hb dX6_isNear_10 rfl hl (by decide) rfl (fun ls hl => ?_)
    refine lv_iconst (v := nI 0) hx hb dX6_isNear_11 (by decide) ?_
    refine lv_istore_n (lv' := [(3, .int (nI 0)), (2, .int (nI 1)), (0, .int a), (1, .int b)]) hx hb dX6_isNear_12 rfl hl (by decide) rfl (fun ls hl => ?_)
    suffices KL13 : ∀ (fuel : Nat) (i : Nat) (f : Int32) (H : Heap) (locs : List Loc) (ls : Array Slot), (i ≤ 4) → (f = bi (nrM a b i)) → 4 - i < fuel → va_P D vwCl (gw kM cs ad I) H → va_D (gA kM ad sz) (gw kM cs ad I) → va_S (gA kM ad sz) s.heap H locs → lv_has ls 4 [(3, .int (nI i)), (2, .int f), (0, .int a), (1, .int b)] → W pg l e ({ frames := 1, cells := 0, slots := 0, locals := 21 }) s m args below meth c H locs 0 0 (MQ below (va_Qi (fun r u => r = f_X6_isNear a b ∧ u = I) (wat kM cs D ad (gA kM ad sz)) (gA kM ad sz)) args s 0 0 (gA kM ad sz)) (F0 m 13 ls []) from KL13 _ 0 (nI 1) _ _ _ (by omega) (by simp [nrM, bi, c_1]) (Nat.lt_succ_self _) hP hD hS (lv_sub hl [0, 1, 2, 3] rfl)
    intro fuel13
    induction fuel13 with
    | zero => intro _ _ _ _ _ _ _ hm; exact absurd hm (Nat.not_lt_zero _)
    | succ fuel13 ih13 =>
      intro i f H locs ls hi hf hm13 hP hD hS hl
      refine lv_iload_n hx hb dX6_isNear_13 rfl (lv_at hl 0 rfl) ?_
      refine lv_iconst (v := nI 4) hx hb dX6_isNear_14 (by decide) ?_
      refine lv_icmp_ge (tgt := 43) hx hb dX6_isNear_15 (by decide) (fun c_5 => ?_) (fun c_5 => ?_)
      · skip
        have nc_5 : 4 ≤ i := (nI_leI (a := 4) (b := i) (by omega) (by omega)).mp c_5
        refine lv_iload_n hx hb dX6_isNear_43 rfl (lv_at hl 1 rfl) ?_
        exact g_iret (v := f) hx hb hr hlocks (by rw [hf]; exact bi_nar _) hP hD hS ⟨by rw [hf, show i = 4 from by omega]; rfl, rfl⟩ dX6_isNear_44
      · skip
        have nc_5 : ¬ 4 ≤ i := fun z9_ => c_5 ((nI_leI (a := 4) (b := i) (by omega) (by omega)).mpr z9_)
        refine lv_iload_n hx hb dX6_isNear_18 rfl (lv_at hl 1 rfl) ?_
        refine lv_if_ne (tgt := 31) hx hb dX6_isNear_19 (by decide) (fun c_6 => ?_) (fun c_6 => ?_)
        · skip
          refine lv_iconst (v := nI 1) hx hb dX6_isNear_31 (by decide) ?_
          refine lv_goto (tgt := 36) hx hb dX6_isNear_32 (by decide) ?_
          refine lv_istore_n (lv' := [(2, .int (nI 1)), (3, .int (nI i)), (0, .int a), (1, .int b)]) hx hb dX6_isNear_36 rfl hl (by decide) rfl (fun ls hl => ?_)
          refine lv_iinc (v := nI (i + 1)) (lv' := [(3, .int (nI (i + 1))), (2, .int (nI 1)), (0, .int a), (1, .int b)]) hx hb dX6_isNear_37 hl (k := 1) rfl (nI_1 i) (by decide) rfl (fun ls hl => ?_)
          refine lv_goto (tgt := 13) hx hb dX6_isNear_40 (by decide) ?_
          exact ih13 (i + 1) (nI 1) _ _ _ (by omega) (by rw [nrM_t (bi_ne (by rw [← hf]; exact c_6))]; rfl) (by omega) hP hD hS (lv_sub hl [0, 1, 2, 3] rfl)
        · skip
          refine lv_iload_n hx hb dX6_isNear_22 rfl (lv_at hl 2 rfl) ?_
          refine lv_iload_n hx hb dX6_isNear_23 rfl (lv_at hl 0 rfl) ?_
          refine g_callF (F := f_X6_beside a (nI i)) hD hS hA (va_runS (As := [.int a, .int (nI i)]) (rest := []) ⟨hx, hb, hml, hown, hts⟩ (c_X6_beside l D cs ad I H.size a (nI i)) (va_cwS 2 hts gX6_isNear_X6_beside rfl rfl rfl (by decide +kernel) ⟨Nat.le_of_ble_eq_true rfl, Nat.le_of_ble_eq_true rfl⟩) (g_preS hP hD hK hN) rfl rfl hl.1 rfl (lv_room (Nat.le_of_ble_eq_true rfl)) dX6_isNear_24 ⟨Nat.le_of_ble_eq_true rfl, Nat.le_of_ble_eq_true rfl⟩) (fun H locs hP hD hS => ?_)
          refine lv_iload_n hx hb dX6_isNear_27 rfl (lv_at hl 3 rfl) ?_
          refine lv_icmp_ne (tgt := 35) hx hb dX6_isNear_28 (by decide) (fun c_7 => ?_) (fun c_7 => ?_)
          · skip
            refine lv_iconst (v := nI 0) hx hb dX6_isNear_35 (by decide) ?_
            refine lv_istore_n (lv' := [(2, .int (nI 0)), (3, .int (nI i)), (0, .int a), (1, .int b)]) hx hb dX6_isNear_36 rfl hl (by decide) rfl (fun ls hl => ?_)
            refine lv_iinc (v := nI (i + 1)) (lv' := [(3, .int (nI (i + 1))), (2, .int (nI 0)), (0, .int a), (1, .int b)]) hx hb dX6_isNear_37 hl (k := 1) rfl (nI_1 i) (by decide) rfl (fun ls hl => ?_)
            refine lv_goto (tgt := 13) hx hb dX6_isNear_40 (by decide) ?_
            exact ih13 (i + 1) (nI 0) _ _ _ (by omega) (by rw [nrM_c (bi_eq (by rw [← hf]; exact c_6)), decide_eq_false (p := f_X6_beside a (nI i) = b) c_7]; rfl) (by omega) hP hD hS (lv_sub hl [0, 1, 2, 3] rfl)
          · skip
            refine lv_iconst (v := nI 1) hx hb dX6_isNear_31 (by decide) ?_
            refine lv_goto (tgt := 36) hx hb dX6_isNear_32 (by decide) ?_
            refine lv_istore_n (lv' := [(2, .int (nI 1)), (3, .int (nI i)), (0, .int a), (1, .int b)]) hx hb dX6_isNear_36 rfl hl (by decide) rfl (fun ls hl => ?_)
            refine lv_iinc (v := nI (i + 1)) (lv' := [(3, .int (nI (i + 1))), (2, .int (nI 1)), (0, .int a), (1, .int b)]) hx hb dX6_isNear_37 hl (k := 1) rfl (nI_1 i) (by decide) rfl (fun ls hl => ?_)
            refine lv_goto (tgt := 13) hx hb dX6_isNear_40 (by decide) ?_
            exact ih13 (i + 1) (nI 1) _ _ _ (by omega) (by rw [nrM_c (bi_eq (by rw [← hf]; exact c_6)), decide_eq_true (p := f_X6_beside a (nI i) = b) c_7]; rfl) (by omega) hP hD hS (lv_sub hl [0, 1, 2, 3] rfl)

theorem nrM_eq {p : Nat} (hp : p < 256) (b : Int32) : ∀ n, n ≤ 4 → nrM (nI p) b n = nr (nI p) b n
  | 0, _ => rfl
  | n + 1, hn => by
    simp only [nrM, nr]
    rw [nrM_eq hp b n (by omega), besM p hp n (by omega), bes_nb p hp n (by omega)]
theorem nearM {p : Nat} (hp : p < 256) (b : Int32) : f_X6_isNear (nI p) b = f_X5_isNear (nI p) b := by
  simp only [f_X6_isNear, f_X5_isNear]
  rw [nrM_eq hp b 4 (Nat.le_refl _)]
def clrM (I : Mm) (k n : Nat) : Mm := wrA I (k + 6) (fun c => if c < n then -1 else I (k + 6) c)
theorem clrM_0 (I : Mm) (k : Nat) : clrM I k 0 = I := by
  funext a
  simp only [clrM, wrA]
  split
  · rename_i h
    rw [h]
    funext c
    rw [if_neg (Nat.not_lt_zero _)]
  · rfl
theorem clrM_s (I : Mm) (k n : Nat) : clrM I k (n + 1) = wr (clrM I k n) (k + 6) n (-1) := by
  funext a
  simp only [clrM, wr]
  by_cases h : a = k + 6
  · rw [h, wrA_s, wrA_s]
    funext c
    rw [upd_ap, wrA_s]
    by_cases e : c = n
    · rw [if_pos e, if_pos (by omega)]
    · rw [if_neg e]
      by_cases e2 : c < n
      · rw [if_pos e2, if_pos (by omega)]
      · rw [if_neg e2, if_neg (by omega)]
  · rw [wrA_n _ _ h, wrA_n _ _ h, wrA_n _ _ h]

set_option maxHeartbeats 4000000 in
set_option maxRecDepth 100000 in
theorem c_X6_clear (l : Launch) (D : va_G) (cs : Nat → ClassId) (ad : Nat → Nat) (I : Mm) (sz : Nat) (k : Nat) (hk : kM.getD k 0 = 10) : MetN l yX6_clear wsX6_clear ({ frames := 0, cells := 0, slots := 0, locals := 0 }) kM cs D ad I sz [.ref (ad k)] (fun u => u = clrM I k 256) 0 0 := by
  refine g_met (cc := cX6_clear) (maxL := 2) (ret := none) (by decide) rfl (Nat.le_of_ble_eq_true rfl) ?_
  intro pg e s m args below meth c ls hx hb hr hml hts hown hlocks hsz hP hD hK hN hS hA hl
  have hown : s.vm.findClass RX6 = some m.cls := hown
  have hl : lv_has ls 2 [(0, .ref (ad k))] := hl
  refine lv_iconst (v := nI 0) hx hb dX6_clear_0 (by decide) ?_
  refine lv_istore_n (lv' := [(1, .int (nI 0)), (0, .ref (ad k))]) hx hb dX6_clear_1 rfl hl (by decide) rfl (fun ls hl => ?_)
  suffices KL2 : ∀ (fuel : Nat) (i : Nat) (v : Mm) (H : Heap) (locs : List Loc) (ls : Array Slot), (i ≤ 256) → (v = clrM I k i) → 256 - i < fuel → va_P D vwCl (gw kM cs ad v) H → va_D (gA kM ad sz) (gw kM cs ad v) → va_S (gA kM ad sz) s.heap H locs → lv_has ls 2 [(1, .int (nI i)), (0, .ref (ad k))] → W pg l e ({ frames := 0, cells := 0, slots := 0, locals := 0 }) s m args below meth c H locs 0 0 (MQ below (va_Qv (fun u => u = clrM I k 256) (wat kM cs D ad (gA kM ad sz)) (gA kM ad sz)) args s 0 0 (gA kM ad sz)) (F0 m 2 ls []) from KL2 _ 0 I _ _ _ (by omega) (clrM_0 _ _).symm (Nat.lt_succ_self _) hP hD hS (lv_sub hl [0, 1] rfl)
  intro fuel2
  induction fuel2 with
  | zero => intro _ _ _ _ _ _ _ hm; exact absurd hm (Nat.not_lt_zero _)
  | succ fuel2 ih2 =>
    intro i v H locs ls hi hv hm2 hP hD hS hl
    refine lv_iload_n hx hb dX6_clear_2 rfl (lv_at hl 0 rfl) ?_
    refine lv_sipush (v := nI 256) hx hb dX6_clear_3 (by decide) ?_
    refine lv_icmp_ge (tgt := 22) hx hb dX6_clear_6 (by decide) (fun c_1 => ?_) (fun c_1 => ?_)
    · skip
      have nc_1 : 256 ≤ i := (nI_leI (a := 256) (b := i) (by omega) (by omega)).mp c_1
      exact g_vret hx hb hr hlocks hP hD hS (by rw [hv, show i = 256 from by omega]) dX6_clear_22
    · skip
      have nc_1 : ¬ 256 ≤ i := fun z9_ => c_1 ((nI_leI (a := 256) (b := i) (by omega) (by omega)).mpr z9_)
      refine lv_aload_n hx hb dX6_clear_9 rfl (lv_at hl 1 rfl) ?_
      refine g_get (κ := 10) (ci := 6) (v := .ref (ad (k + 6))) (C := RX6) (T := TX6) (N := 8) hx hb hts hown hK hP (k := k) hk (by decide) rfl (fun _ h => List.mem_cons_of_mem _ (List.mem_append_right _ h)) rfl 7 (by decide) (hts _ (List.mem_of_getElem? (i := 1) rfl)) (fun _ h9 => h9) rfl dX6_clear_10 ?_
      refine lv_iload_n hx hb dX6_clear_13 rfl (lv_at hl 0 rfl) ?_
      refine lv_iconst (v := -1) hx hb dX6_clear_14 (by decide) ?_
      refine g_iastn (n := 256) (i := i) hx hb hK hP hD hS (k := (k + 6)) (kd_10_7 hk) (by decide) (fun _ => rfl) (by omega) (by decide) dX6_clear_15 (fun u2 H locs hu2 hP hD hS => ?_)
      refine lv_iinc (v := nI (i + 1)) (lv' := [(1, .int (nI (i + 1))), (0, .ref (ad k))]) hx hb dX6_clear_16 hl (k := 0) rfl (nI_1 i) (by decide) rfl (fun ls hl => ?_)
      refine lv_goto (tgt := 2) hx hb dX6_clear_19 (by decide) ?_
      exact ih2 (i + 1) u2 _ _ _ (by omega) (by rw [hu2, hv, ← clrM_s]) (by omega) hP hD hS (lv_sub hl [0, 1] rfl)

def m_X6_lay (I : Mm) (k : Nat) (c0 : Nat) (b : Int32) : Mm := (wr (wr (wr I (k + 1) c0 b) (k + 2) c0 (nI 0)) (k + 3) c0 (nI 0))
set_option maxHeartbeats 4000000 in
set_option maxRecDepth 100000 in
theorem c_X6_lay (l : Launch) (D : va_G) (cs : Nat → ClassId) (ad : Nat → Nat) (I : Mm) (sz : Nat) (k : Nat) (hk : kM.getD k 0 = 10) (c0 : Nat) (hc0 : c0 < 256) (b : Int32) : MetN l yX6_lay wsX6_lay ({ frames := 0, cells := 0, slots := 0, locals := 0 }) kM cs D ad I sz [.ref (ad k), .int (nI c0), .int b] (fun u => u = m_X6_lay I k c0 b) 0 0 := by
  refine g_met (cc := cX6_lay) (maxL := 3) (ret := none) (by decide) rfl (Nat.le_of_ble_eq_true rfl) ?_
  intro pg e s m args below meth c ls hx hb hr hml hts hown hlocks hsz hP hD hK hN hS hA hl
  have hown : s.vm.findClass RX6 = some m.cls := hown
  have hl : lv_has ls 3 [(0, .ref (ad k)), (1, .int (nI c0)), (2, .int b)] := hl
  refine lv_aload_n hx hb dX6_lay_0 rfl (lv_at hl 0 rfl) ?_
  refine g_get (κ := 10) (ci := 6) (v := .ref (ad (k + 1))) (C := RX6) (T := TX6) (N := 8) hx hb hts hown hK hP (k := k) hk (by decide) rfl (fun _ h => List.mem_cons_of_mem _ (List.mem_append_right _ h)) rfl 1 (by decide) (hts _ (List.mem_of_getElem? (i := 1) rfl)) (fun _ h9 => h9) rfl dX6_lay_1 ?_
  refine lv_iload_n hx hb dX6_lay_4 rfl (lv_at hl 1 rfl) ?_
  refine lv_iload_n hx hb dX6_lay_5 rfl (lv_at hl 2 rfl) ?_
  refine g_iastn (n := 256) (i := c0) hx hb hK hP hD hS (k := (k + 1)) (kd_10_1 hk) (by decide) (fun _ => rfl) (by omega) (by decide) dX6_lay_6 (fun u1 H locs hu1 hP hD hS => ?_)
  refine lv_aload_n hx hb dX6_lay_7 rfl (lv_at hl 0 rfl) ?_
  refine g_get (κ := 10) (ci := 6) (v := .ref (ad (k + 2))) (C := RX6) (T := TX6) (N := 8) hx hb hts hown hK hP (k := k) hk (by decide) rfl (fun _ h => List.mem_cons_of_mem _ (List.mem_append_right _ h)) rfl 2 (by decide) (hts _ (List.mem_of_getElem? (i := 2) rfl)) (fun _ h9 => h9) rfl dX6_lay_8 ?_
  refine lv_iload_n hx hb dX6_lay_11 rfl (lv_at hl 1 rfl) ?_
  refine lv_iconst (v := nI 0) hx hb dX6_lay_12 (by decide) ?_
  refine g_iastn (n := 256) (i := c0) hx hb hK hP hD hS (k := (k + 2)) (kd_10_2 hk) (by decide) (fun _ => rfl) (by omega) (by decide) dX6_lay_13 (fun u2 H locs hu2 hP hD hS => ?_)
  refine lv_aload_n hx hb dX6_lay_14 rfl (lv_at hl 0 rfl) ?_
  refine g_get (κ := 10) (ci := 6) (v := .ref (ad (k + 3))) (C := RX6) (T := TX6) (N := 8) hx hb hts hown hK hP (k := k) hk (by decide) rfl (fun _ h => List.mem_cons_of_mem _ (List.mem_append_right _ h)) rfl 3 (by decide) (hts _ (List.mem_of_getElem? (i := 3) rfl)) (fun _ h9 => h9) rfl dX6_lay_15 ?_
  refine lv_iload_n hx hb dX6_lay_18 rfl (lv_at hl 1 rfl) ?_
  refine lv_iconst (v := nI 0) hx hb dX6_lay_19 (by decide) ?_
  refine g_iastn (n := 256) (i := c0) hx hb hK hP hD hS (k := (k + 3)) (kd_10_3 hk) (by decide) (fun _ => rfl) (by omega) (by decide) dX6_lay_20 (fun u3 H locs hu3 hP hD hS => ?_)
  exact g_vret hx hb hr hlocks hP hD hS (by subst hu1; subst hu2; subst hu3; simp only [m_X6_lay]) dX6_lay_21
