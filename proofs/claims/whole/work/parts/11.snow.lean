def f_X3_sortAt (I : Mm) (k : Nat) (a : Int32) : Int32 := (if a < 0 then nI 10 else (if (nI 256) ≤ a then nI 10 else I (k + 1) a.toNatClampNeg))
set_option maxHeartbeats 4000000 in
set_option maxRecDepth 100000 in
theorem c_X3_sortAt (l : Launch) (D : va_G) (cs : Nat → ClassId) (ad : Nat → Nat) (I : Mm) (sz : Nat) (k : Nat) (hk : kC.getD k 0 = 3) (a : Int32) : MetI l yX3_sortAt wsX3_sortAt ({ frames := 0, cells := 0, slots := 0, locals := 0 }) kC cs D ad I sz [.ref (ad k), .int a] (fun r u => r = f_X3_sortAt I k a ∧ u = I) 0 0 := by
  refine g_met (cc := cX3_sortAt) (maxL := 2) (ret := (some .int)) (by decide) rfl (Nat.le_of_ble_eq_true rfl) ?_
  intro pg e s m args below meth c ls hx hb hr hml hts hown hlocks hsz hP hD hK hN hS hA hl
  have hown : s.vm.findClass RX3 = some m.cls := hown
  have hl : lv_has ls 2 [(0, .ref (ad k)), (1, .int a)] := hl
  refine lv_iload_n hx hb dX3_sortAt_0 rfl (lv_at hl 1 rfl) ?_
  refine lv_if_lt (tgt := 20) hx hb dX3_sortAt_1 (by decide) (fun c_1 => ?_) (fun c_1 => ?_)
  · skip
    refine lv_bipush (v := nI 10) hx hb dX3_sortAt_20 (by decide) ?_
    exact g_iret (v := nI 10) hx hb hr hlocks rfl hP hD hS ⟨(by simp only [f_X3_sortAt, if_pos c_1]), rfl⟩ dX3_sortAt_22
  · skip
    refine lv_iload_n hx hb dX3_sortAt_4 rfl (lv_at hl 1 rfl) ?_
    refine lv_sipush (v := nI 256) hx hb dX3_sortAt_5 (by decide) ?_
    refine lv_icmp_ge (tgt := 20) hx hb dX3_sortAt_8 (by decide) (fun c_2 => ?_) (fun c_2 => ?_)
    · skip
      refine lv_bipush (v := nI 10) hx hb dX3_sortAt_20 (by decide) ?_
      exact g_iret (v := nI 10) hx hb hr hlocks rfl hP hD hS ⟨(by simp only [f_X3_sortAt, if_neg c_1, if_pos c_2]), rfl⟩ dX3_sortAt_22
    · skip
      refine lv_aload_n hx hb dX3_sortAt_11 rfl (lv_at hl 0 rfl) ?_
      refine g_get (κ := 3) (ci := 3) (v := .ref (ad (k + 1))) (C := RX3) (T := TX3) (N := 3) hx hb hts hown hK hP (k := k) hk (by decide) rfl (fun _ h => List.mem_cons_of_mem _ (List.mem_append_right _ h)) rfl 0 (by decide) (hts _ (List.mem_of_getElem? (i := 1) rfl)) (fun _ h9 => h9) rfl dX3_sortAt_12 ?_
      refine lv_iload_n hx hb dX3_sortAt_15 rfl (lv_at hl 1 rfl) ?_
      refine g_iald (n := 256) (i := a) hx hb hK hP (k := (k + 1)) (kd_3_0 hk) (by decide) rfl (vp_in_c c_1 c_2 (by decide)) dX3_sortAt_16 ?_
      refine lv_goto (tgt := 22) hx hb dX3_sortAt_17 (by decide) ?_
      exact g_iret (v := I (k + 1) a.toNatClampNeg) hx hb hr hlocks rfl hP hD hS ⟨(by simp only [f_X3_sortAt, if_neg c_1, if_neg c_2]), rfl⟩ dX3_sortAt_22

def f_X3_isOpen (I : Mm) (k : Nat) (a : Int32) : Int32 := (if a < 0 then nI 0 else (if (nI 256) ≤ a then nI 0 else (if (I (k + 1) a.toNatClampNeg) = 0 then nI 1 else nI 0)))
set_option maxHeartbeats 4000000 in
set_option maxRecDepth 100000 in
theorem c_X3_isOpen (l : Launch) (D : va_G) (cs : Nat → ClassId) (ad : Nat → Nat) (I : Mm) (sz : Nat) (k : Nat) (hk : kC.getD k 0 = 3) (a : Int32) : MetI l yX3_isOpen wsX3_isOpen ({ frames := 0, cells := 0, slots := 0, locals := 0 }) kC cs D ad I sz [.ref (ad k), .int a] (fun r u => r = f_X3_isOpen I k a ∧ u = I) 0 0 := by
  refine g_met (cc := cX3_isOpen) (maxL := 2) (ret := (some .boolean)) (by decide) rfl (Nat.le_of_ble_eq_true rfl) ?_
  intro pg e s m args below meth c ls hx hb hr hml hts hown hlocks hsz hP hD hK hN hS hA hl
  have hown : s.vm.findClass RX3 = some m.cls := hown
  have hl : lv_has ls 2 [(0, .ref (ad k)), (1, .int a)] := hl
  refine lv_iload_n hx hb dX3_isOpen_0 rfl (lv_at hl 1 rfl) ?_
  refine lv_if_lt (tgt := 24) hx hb dX3_isOpen_1 (by decide) (fun c_1 => ?_) (fun c_1 => ?_)
  · skip
    refine lv_iconst (v := nI 0) hx hb dX3_isOpen_24 (by decide) ?_
    exact g_iret (v := nI 0) hx hb hr hlocks rfl hP hD hS ⟨(by simp only [f_X3_isOpen, if_pos c_1]), rfl⟩ dX3_isOpen_25
  · skip
    refine lv_iload_n hx hb dX3_isOpen_4 rfl (lv_at hl 1 rfl) ?_
    refine lv_sipush (v := nI 256) hx hb dX3_isOpen_5 (by decide) ?_
    refine lv_icmp_ge (tgt := 24) hx hb dX3_isOpen_8 (by decide) (fun c_2 => ?_) (fun c_2 => ?_)
    · skip
      refine lv_iconst (v := nI 0) hx hb dX3_isOpen_24 (by decide) ?_
      exact g_iret (v := nI 0) hx hb hr hlocks rfl hP hD hS ⟨(by simp only [f_X3_isOpen, if_neg c_1, if_pos c_2]), rfl⟩ dX3_isOpen_25
    · skip
      refine lv_aload_n hx hb dX3_isOpen_11 rfl (lv_at hl 0 rfl) ?_
      refine g_get (κ := 3) (ci := 3) (v := .ref (ad (k + 1))) (C := RX3) (T := TX3) (N := 3) hx hb hts hown hK hP (k := k) hk (by decide) rfl (fun _ h => List.mem_cons_of_mem _ (List.mem_append_right _ h)) rfl 0 (by decide) (hts _ (List.mem_of_getElem? (i := 1) rfl)) (fun _ h9 => h9) rfl dX3_isOpen_12 ?_
      refine lv_iload_n hx hb dX3_isOpen_15 rfl (lv_at hl 1 rfl) ?_
      refine g_iald (n := 256) (i := a) hx hb hK hP (k := (k + 1)) (kd_3_0 hk) (by decide) rfl (vp_in_c c_1 c_2 (by decide)) dX3_isOpen_16 ?_
      refine lv_if_ne (tgt := 24) hx hb dX3_isOpen_17 (by decide) (fun c_3 => ?_) (fun c_3 => ?_)
      · skip
        refine lv_iconst (v := nI 0) hx hb dX3_isOpen_24 (by decide) ?_
        exact g_iret (v := nI 0) hx hb hr hlocks rfl hP hD hS ⟨(by simp only [f_X3_isOpen, if_neg c_1, if_neg c_2, if_neg c_3]), rfl⟩ dX3_isOpen_25
      · skip
        refine lv_iconst (v := nI 1) hx hb dX3_isOpen_20 (by decide) ?_
        refine lv_goto (tgt := 25) hx hb dX3_isOpen_21 (by decide) ?_
        exact g_iret (v := nI 1) hx hb hr hlocks rfl hP hD hS ⟨(by simp only [f_X3_isOpen, if_neg c_1, if_neg c_2, if_pos c_3]), rfl⟩ dX3_isOpen_25

def f_X3_ageAt (I : Mm) (k : Nat) (a : Int32) : Int32 := (if a < 0 then nI 0 else (if (nI 256) ≤ a then nI 0 else I (k + 2) a.toNatClampNeg))
set_option maxHeartbeats 4000000 in
set_option maxRecDepth 100000 in
theorem c_X3_ageAt (l : Launch) (D : va_G) (cs : Nat → ClassId) (ad : Nat → Nat) (I : Mm) (sz : Nat) (k : Nat) (hk : kC.getD k 0 = 3) (a : Int32) : MetI l yX3_ageAt wsX3_ageAt ({ frames := 0, cells := 0, slots := 0, locals := 0 }) kC cs D ad I sz [.ref (ad k), .int a] (fun r u => r = f_X3_ageAt I k a ∧ u = I) 0 0 := by
  refine g_met (cc := cX3_ageAt) (maxL := 2) (ret := (some .int)) (by decide) rfl (Nat.le_of_ble_eq_true rfl) ?_
  intro pg e s m args below meth c ls hx hb hr hml hts hown hlocks hsz hP hD hK hN hS hA hl
  have hown : s.vm.findClass RX3 = some m.cls := hown
  have hl : lv_has ls 2 [(0, .ref (ad k)), (1, .int a)] := hl
  refine lv_iload_n hx hb dX3_ageAt_0 rfl (lv_at hl 1 rfl) ?_
  refine lv_if_lt (tgt := 20) hx hb dX3_ageAt_1 (by decide) (fun c_1 => ?_) (fun c_1 => ?_)
  · skip
    refine lv_iconst (v := nI 0) hx hb dX3_ageAt_20 (by decide) ?_
    exact g_iret (v := nI 0) hx hb hr hlocks rfl hP hD hS ⟨(by simp only [f_X3_ageAt, if_pos c_1]), rfl⟩ dX3_ageAt_21
  · skip
    refine lv_iload_n hx hb dX3_ageAt_4 rfl (lv_at hl 1 rfl) ?_
    refine lv_sipush (v := nI 256) hx hb dX3_ageAt_5 (by decide) ?_
    refine lv_icmp_ge (tgt := 20) hx hb dX3_ageAt_8 (by decide) (fun c_2 => ?_) (fun c_2 => ?_)
    · skip
      refine lv_iconst (v := nI 0) hx hb dX3_ageAt_20 (by decide) ?_
      exact g_iret (v := nI 0) hx hb hr hlocks rfl hP hD hS ⟨(by simp only [f_X3_ageAt, if_neg c_1, if_pos c_2]), rfl⟩ dX3_ageAt_21
    · skip
      refine lv_aload_n hx hb dX3_ageAt_11 rfl (lv_at hl 0 rfl) ?_
      refine g_get (κ := 3) (ci := 3) (v := .ref (ad (k + 2))) (C := RX3) (T := TX3) (N := 3) hx hb hts hown hK hP (k := k) hk (by decide) rfl (fun _ h => List.mem_cons_of_mem _ (List.mem_append_right _ h)) rfl 1 (by decide) (hts _ (List.mem_of_getElem? (i := 1) rfl)) (fun _ h9 => h9) rfl dX3_ageAt_12 ?_
      refine lv_iload_n hx hb dX3_ageAt_15 rfl (lv_at hl 1 rfl) ?_
      refine g_iald (n := 256) (i := a) hx hb hK hP (k := (k + 2)) (kd_3_1 hk) (by decide) rfl (vp_in_c c_1 c_2 (by decide)) dX3_ageAt_16 ?_
      refine lv_goto (tgt := 21) hx hb dX3_ageAt_17 (by decide) ?_
      exact g_iret (v := I (k + 2) a.toNatClampNeg) hx hb hr hlocks rfl hP hD hS ⟨(by simp only [f_X3_ageAt, if_neg c_1, if_neg c_2]), rfl⟩ dX3_ageAt_21

def f_X3_postsAt (I : Mm) (k : Nat) (a : Int32) : Int32 := (if a < 0 then nI 0 else (if (nI 256) ≤ a then nI 0 else I (k + 3) a.toNatClampNeg))
set_option maxHeartbeats 4000000 in
set_option maxRecDepth 100000 in
theorem c_X3_postsAt (l : Launch) (D : va_G) (cs : Nat → ClassId) (ad : Nat → Nat) (I : Mm) (sz : Nat) (k : Nat) (hk : kC.getD k 0 = 3) (a : Int32) : MetI l yX3_postsAt wsX3_postsAt ({ frames := 0, cells := 0, slots := 0, locals := 0 }) kC cs D ad I sz [.ref (ad k), .int a] (fun r u => r = f_X3_postsAt I k a ∧ u = I) 0 0 := by
  refine g_met (cc := cX3_postsAt) (maxL := 2) (ret := (some .int)) (by decide) rfl (Nat.le_of_ble_eq_true rfl) ?_
  intro pg e s m args below meth c ls hx hb hr hml hts hown hlocks hsz hP hD hK hN hS hA hl
  have hown : s.vm.findClass RX3 = some m.cls := hown
  have hl : lv_has ls 2 [(0, .ref (ad k)), (1, .int a)] := hl
  refine lv_iload_n hx hb dX3_postsAt_0 rfl (lv_at hl 1 rfl) ?_
  refine lv_if_lt (tgt := 20) hx hb dX3_postsAt_1 (by decide) (fun c_1 => ?_) (fun c_1 => ?_)
  · skip
    refine lv_iconst (v := nI 0) hx hb dX3_postsAt_20 (by decide) ?_
    exact g_iret (v := nI 0) hx hb hr hlocks rfl hP hD hS ⟨(by simp only [f_X3_postsAt, if_pos c_1]), rfl⟩ dX3_postsAt_21
  · skip
    refine lv_iload_n hx hb dX3_postsAt_4 rfl (lv_at hl 1 rfl) ?_
    refine lv_sipush (v := nI 256) hx hb dX3_postsAt_5 (by decide) ?_
    refine lv_icmp_ge (tgt := 20) hx hb dX3_postsAt_8 (by decide) (fun c_2 => ?_) (fun c_2 => ?_)
    · skip
      refine lv_iconst (v := nI 0) hx hb dX3_postsAt_20 (by decide) ?_
      exact g_iret (v := nI 0) hx hb hr hlocks rfl hP hD hS ⟨(by simp only [f_X3_postsAt, if_neg c_1, if_pos c_2]), rfl⟩ dX3_postsAt_21
    · skip
      refine lv_aload_n hx hb dX3_postsAt_11 rfl (lv_at hl 0 rfl) ?_
      refine g_get (κ := 3) (ci := 3) (v := .ref (ad (k + 3))) (C := RX3) (T := TX3) (N := 3) hx hb hts hown hK hP (k := k) hk (by decide) rfl (fun _ h => List.mem_cons_of_mem _ (List.mem_append_right _ h)) rfl 2 (by decide) (hts _ (List.mem_of_getElem? (i := 1) rfl)) (fun _ h9 => h9) rfl dX3_postsAt_12 ?_
      refine lv_iload_n hx hb dX3_postsAt_15 rfl (lv_at hl 1 rfl) ?_
      refine g_iald (n := 256) (i := a) hx hb hK hP (k := (k + 3)) (kd_3_2 hk) (by decide) rfl (vp_in_c c_1 c_2 (by decide)) dX3_postsAt_16 ?_
      refine lv_goto (tgt := 21) hx hb dX3_postsAt_17 (by decide) ?_
      exact g_iret (v := I (k + 3) a.toNatClampNeg) hx hb hr hlocks rfl hP hD hS ⟨(by simp only [f_X3_postsAt, if_neg c_1, if_neg c_2]), rfl⟩ dX3_postsAt_21

def m_X3_put (I : Mm) (k : Nat) (a : Int32) (b : Int32) : Mm := (if a < 0 then I else (if (nI 256) ≤ a then I else (wr (wr (wr I (k + 1) a.toNatClampNeg b) (k + 2) a.toNatClampNeg (nI 0)) (k + 3) a.toNatClampNeg (nI 0))))
set_option maxHeartbeats 4000000 in
set_option maxRecDepth 100000 in
theorem c_X3_put (l : Launch) (D : va_G) (cs : Nat → ClassId) (ad : Nat → Nat) (I : Mm) (sz : Nat) (k : Nat) (hk : kC.getD k 0 = 3) (a : Int32) (b : Int32) : MetN l yX3_put wsX3_put ({ frames := 0, cells := 0, slots := 0, locals := 0 }) kC cs D ad I sz [.ref (ad k), .int a, .int b] (fun u => u = m_X3_put I k a b) 0 0 := by
  refine g_met (cc := cX3_put) (maxL := 3) (ret := none) (by decide) rfl (Nat.le_of_ble_eq_true rfl) ?_
  intro pg e s m args below meth c ls hx hb hr hml hts hown hlocks hsz hP hD hK hN hS hA hl
  have hown : s.vm.findClass RX3 = some m.cls := hown
  have hl : lv_has ls 3 [(0, .ref (ad k)), (1, .int a), (2, .int b)] := hl
  refine lv_iload_n hx hb dX3_put_0 rfl (lv_at hl 1 rfl) ?_
  refine lv_if_lt (tgt := 32) hx hb dX3_put_1 (by decide) (fun c_1 => ?_) (fun c_1 => ?_)
  · skip
    exact g_vret hx hb hr hlocks hP hD hS (by simp only [m_X3_put, if_pos c_1]) dX3_put_32
  · skip
    refine lv_iload_n hx hb dX3_put_4 rfl (lv_at hl 1 rfl) ?_
    refine lv_sipush (v := nI 256) hx hb dX3_put_5 (by decide) ?_
    refine lv_icmp_ge (tgt := 32) hx hb dX3_put_8 (by decide) (fun c_2 => ?_) (fun c_2 => ?_)
    · skip
      exact g_vret hx hb hr hlocks hP hD hS (by simp only [m_X3_put, if_neg c_1, if_pos c_2]) dX3_put_32
    · skip
      refine lv_aload_n hx hb dX3_put_11 rfl (lv_at hl 0 rfl) ?_
      refine g_get (κ := 3) (ci := 3) (v := .ref (ad (k + 1))) (C := RX3) (T := TX3) (N := 3) hx hb hts hown hK hP (k := k) hk (by decide) rfl (fun _ h => List.mem_cons_of_mem _ (List.mem_append_right _ h)) rfl 0 (by decide) (hts _ (List.mem_of_getElem? (i := 1) rfl)) (fun _ h9 => h9) rfl dX3_put_12 ?_
      refine lv_iload_n hx hb dX3_put_15 rfl (lv_at hl 1 rfl) ?_
      refine lv_iload_n hx hb dX3_put_16 rfl (lv_at hl 2 rfl) ?_
      refine g_iast (n := 256) (i := a) hx hb hK hP hD hS (k := (k + 1)) (kd_3_0 hk) (by decide) (fun _ => rfl) (vp_in_c c_1 c_2 (by decide)) dX3_put_17 (fun u3 H locs hu3 hP hD hS => ?_)
      refine lv_aload_n hx hb dX3_put_18 rfl (lv_at hl 0 rfl) ?_
      refine g_get (κ := 3) (ci := 3) (v := .ref (ad (k + 2))) (C := RX3) (T := TX3) (N := 3) hx hb hts hown hK hP (k := k) hk (by decide) rfl (fun _ h => List.mem_cons_of_mem _ (List.mem_append_right _ h)) rfl 1 (by decide) (hts _ (List.mem_of_getElem? (i := 2) rfl)) (fun _ h9 => h9) rfl dX3_put_19 ?_
      refine lv_iload_n hx hb dX3_put_22 rfl (lv_at hl 1 rfl) ?_
      refine lv_iconst (v := nI 0) hx hb dX3_put_23 (by decide) ?_
      refine g_iast (n := 256) (i := a) hx hb hK hP hD hS (k := (k + 2)) (kd_3_1 hk) (by decide) (fun _ => rfl) (vp_in_c c_1 c_2 (by decide)) dX3_put_24 (fun u4 H locs hu4 hP hD hS => ?_)
      refine lv_aload_n hx hb dX3_put_25 rfl (lv_at hl 0 rfl) ?_
      refine g_get (κ := 3) (ci := 3) (v := .ref (ad (k + 3))) (C := RX3) (T := TX3) (N := 3) hx hb hts hown hK hP (k := k) hk (by decide) rfl (fun _ h => List.mem_cons_of_mem _ (List.mem_append_right _ h)) rfl 2 (by decide) (hts _ (List.mem_of_getElem? (i := 3) rfl)) (fun _ h9 => h9) rfl dX3_put_26 ?_
      refine lv_iload_n hx hb dX3_put_29 rfl (lv_at hl 1 rfl) ?_
      refine lv_iconst (v := nI 0) hx hb dX3_put_30 (by decide) ?_
      refine g_iast (n := 256) (i := a) hx hb hK hP hD hS (k := (k + 3)) (kd_3_2 hk) (by decide) (fun _ => rfl) (vp_in_c c_1 c_2 (by decide)) dX3_put_31 (fun u5 H locs hu5 hP hD hS => ?_)
      exact g_vret hx hb hr hlocks hP hD hS (by subst hu3; subst hu4; subst hu5; simp only [m_X3_put, if_neg c_1, if_neg c_2]) dX3_put_32

theorem isOpen_in {I : Mm} {k : Nat} {a : Int32} (h : ¬ f_X3_isOpen I k a = 0) : vp_in a 256 := by
  unfold f_X3_isOpen at h
  by_cases h1 : a < 0
  · rw [if_pos h1] at h; exact absurd rfl h
  · by_cases h2 : nI 256 ≤ a
    · rw [if_neg h1, if_pos h2] at h; exact absurd rfl h
    · exact vp_in_c h1 h2 (by decide)

def m_X3_setPost (I : Mm) (k : Nat) (a : Int32) : Mm := (if (f_X3_isOpen I k a) = 0 then I else (wr I (k + 3) a.toNatClampNeg (nI 1)))
set_option maxHeartbeats 4000000 in
set_option maxRecDepth 100000 in
theorem c_X3_setPost (l : Launch) (D : va_G) (cs : Nat → ClassId) (ad : Nat → Nat) (I : Mm) (sz : Nat) (k : Nat) (hk : kC.getD k 0 = 3) (a : Int32) : MetN l yX3_setPost wsX3_setPost ({ frames := 1, cells := 0, slots := 0, locals := 21 }) kC cs D ad I sz [.ref (ad k), .int a] (fun u => u = m_X3_setPost I k a) 0 0 := by
  refine g_met (cc := cX3_setPost) (maxL := 2) (ret := none) (by decide) rfl (Nat.le_of_ble_eq_true rfl) ?_
  intro pg e s m args below meth c ls hx hb hr hml hts hown hlocks hsz hP hD hK hN hS hA hl
  have hown : s.vm.findClass RX3 = some m.cls := hown
  have hl : lv_has ls 2 [(0, .ref (ad k)), (1, .int a)] := hl
  refine lv_aload_n hx hb dX3_setPost_0 rfl (lv_at hl 0 rfl) ?_
  refine lv_iload_n hx hb dX3_setPost_1 rfl (lv_at hl 1 rfl) ?_
  refine g_callF (F := f_X3_isOpen I k a) hD hS hA (va_runV (As := [.int a]) (rest := []) ⟨hx, hb, hml, hown, hts⟩ (c_X3_isOpen l D cs ad I s.heap.size k hk a) (cwV 1 hts gX3_setPost_X3_isOpen rfl rfl rfl (by decide +kernel) ⟨Nat.le_of_ble_eq_true rfl, Nat.le_of_ble_eq_true rfl⟩) (g_preV hP hD hK hN (k := k) hk (by decide) rfl rfl rfl rfl) rfl rfl hl.1 rfl (lv_room (Nat.le_of_ble_eq_true rfl)) dX3_setPost_2 ⟨Nat.le_of_ble_eq_true rfl, Nat.le_of_ble_eq_true rfl⟩) (fun H locs hP hD hS => ?_)
  refine lv_if_eq (tgt := 15) hx hb dX3_setPost_5 (by decide) (fun c_1 => ?_) (fun c_1 => ?_)
  · skip
    exact g_vret hx hb hr hlocks hP hD hS (by simp only [m_X3_setPost, if_pos c_1]) dX3_setPost_15
  · skip
    refine lv_aload_n hx hb dX3_setPost_8 rfl (lv_at hl 0 rfl) ?_
    refine g_get (κ := 3) (ci := 3) (v := .ref (ad (k + 3))) (C := RX3) (T := TX3) (N := 3) hx hb hts hown hK hP (k := k) hk (by decide) rfl (fun _ h => List.mem_cons_of_mem _ (List.mem_append_right _ h)) rfl 2 (by decide) (hts _ (List.mem_of_getElem? (i := 1) rfl)) (fun _ h9 => h9) rfl dX3_setPost_9 ?_
    refine lv_iload_n hx hb dX3_setPost_12 rfl (lv_at hl 1 rfl) ?_
    refine lv_iconst (v := nI 1) hx hb dX3_setPost_13 (by decide) ?_
    refine g_iast (n := 256) (i := a) hx hb hK hP hD hS (k := (k + 3)) (kd_3_2 hk) (by decide) (fun _ => rfl) (isOpen_in c_1) dX3_setPost_14 (fun u2 H locs hu2 hP hD hS => ?_)
    exact g_vret hx hb hr hlocks hP hD hS (by subst hu2; simp only [m_X3_setPost, if_neg c_1]) dX3_setPost_15

def cn (p : Nat → Bool) : Nat → Nat
  | 0 => 0
  | n + 1 => cn p n + (if p n then 1 else 0)
theorem cn_t {p : Nat → Bool} {n : Nat} (h : p n = true) : cn p (n + 1) = cn p n + 1 := by simp [cn, h]
theorem cn_f {p : Nat → Bool} {n : Nat} (h : p n = false) : cn p (n + 1) = cn p n := by simp [cn, h]
theorem cn_le (p : Nat → Bool) : ∀ n, cn p n ≤ n
  | 0 => Nat.le_refl 0
  | n + 1 => by have := cn_le p n; simp only [cn]; split <;> omega
def sm (f : Nat → Int32) : Nat → Int32
  | 0 => 0
  | n + 1 => sm f n + f n
def gro (I : Mm) (k n : Nat) : Mm := wrA I (k + 2) (fun j => if j < n ∧ I (k + 1) j = 0 then I (k + 2) j + nI 1 else I (k + 2) j)
theorem gro_0 (I : Mm) (k : Nat) : gro I k 0 = I := by
  funext a b
  simp only [gro, wrA]
  split
  · rename_i h; subst h; simp
  · rfl
theorem gro_1 (I : Mm) (k n : Nat) : gro I k n (k + 1) = I (k + 1) := wrA_n _ _ (by omega)
theorem gro_t {I : Mm} {k n : Nat} (h : I (k + 1) n = 0) : gro I k (n + 1) = wr (gro I k n) (k + 2) n (gro I k n (k + 2) n + nI 1) := by
  funext a b
  simp only [gro, wr, wrA, upd]
  by_cases ha : a = k + 2
  · subst ha
    by_cases hb : b = n
    · subst hb; simp [h, upd]
    · simp only [if_true, if_neg hb]
      by_cases hc : b < n
      · simp [hc, Nat.lt_succ_of_lt hc, upd, hb]
      · simp [hc, show ¬ b < n + 1 from by omega, upd, hb]
  · simp [ha]
theorem gro_f {I : Mm} {k n : Nat} (h : ¬ I (k + 1) n = 0) : gro I k (n + 1) = gro I k n := by
  funext a b
  simp only [gro, wrA]
  by_cases ha : a = k + 2
  · subst ha
    by_cases hb : b = n
    · subst hb; simp [h]
    · simp only [if_true]
      by_cases hc : b < n
      · simp [hc, Nat.lt_succ_of_lt hc]
      · simp [hc, show ¬ b < n + 1 from by omega]
  · simp [ha]

set_option maxHeartbeats 4000000 in
set_option maxRecDepth 100000 in
theorem c_X3_growOlder (l : Launch) (D : va_G) (cs : Nat → ClassId) (ad : Nat → Nat) (I : Mm) (sz : Nat) (k : Nat) (hk : kC.getD k 0 = 3) : MetN l yX3_growOlder wsX3_growOlder ({ frames := 0, cells := 0, slots := 0, locals := 0 }) kC cs D ad I sz [.ref (ad k)] (fun u => u = gro I k 256) 0 0 := by
  refine g_met (cc := cX3_growOlder) (maxL := 2) (ret := none) (by decide) rfl (Nat.le_of_ble_eq_true rfl) ?_
  intro pg e s m args below meth c ls hx hb hr hml hts hown hlocks hsz hP hD hK hN hS hA hl
  have hown : s.vm.findClass RX3 = some m.cls := hown
  have hl : lv_has ls 2 [(0, .ref (ad k))] := hl
  refine lv_iconst (v := nI 0) hx hb dX3_growOlder_0 (by decide) ?_
  refine lv_istore_n (lv' := [(1, .int (nI 0)), (0, .ref (ad k))]) hx hb dX3_growOlder_1 rfl hl (by decide) rfl (fun ls hl => ?_)
  suffices KL2 : ∀ (fuel : Nat) (i : Nat) (u : Mm) (H : Heap) (locs : List Loc) (ls : Array Slot), (i ≤ 256) → (u = gro I k i) → 256 - i < fuel → va_P D vwCl (gw kC cs ad u) H → va_D (gA kC ad sz) (gw kC cs ad u) → va_S (gA kC ad sz) s.heap H locs → lv_has ls 2 [(1, .int (nI i)), (0, .ref (ad k))] → W pg l e ({ frames := 0, cells := 0, slots := 0, locals := 0 }) s m args below meth c H locs 0 0 (MQ below (va_Qv (fun u => u = gro I k 256) (wat kC cs D ad (gA kC ad sz)) (gA kC ad sz)) args s 0 0 (gA kC ad sz)) (F0 m 2 ls []) from KL2 _ 0 I _ _ _ (by omega) (gro_0 I k).symm (Nat.lt_succ_self _) hP hD hS (lv_sub hl [0, 1] rfl)
  intro fuel2
  induction fuel2 with
  | zero => intro _ _ _ _ _ _ _ hm; exact absurd hm (Nat.not_lt_zero _)
  | succ fuel2 ih2 =>
    intro i u H locs ls hi hu hm2 hP hD hS hl
    refine lv_iload_n hx hb dX3_growOlder_2 rfl (lv_at hl 0 rfl) ?_
    refine lv_sipush (v := nI 256) hx hb dX3_growOlder_3 (by decide) ?_
    refine lv_icmp_ge (tgt := 34) hx hb dX3_growOlder_6 (by decide) (fun c_1 => ?_) (fun c_1 => ?_)
    · skip
      have nc_1 : 256 ≤ i := (nI_leI (a := 256) (b := i) (by omega) (by omega)).mp c_1
      exact g_vret hx hb hr hlocks hP hD hS (by rw [hu, show i = 256 from by omega]) dX3_growOlder_34
    · skip
      have nc_1 : ¬ 256 ≤ i := fun z9_ => c_1 ((nI_leI (a := 256) (b := i) (by omega) (by omega)).mpr z9_)
      refine lv_aload_n hx hb dX3_growOlder_9 rfl (lv_at hl 1 rfl) ?_
      refine g_get (κ := 3) (ci := 3) (v := .ref (ad (k + 1))) (C := RX3) (T := TX3) (N := 3) hx hb hts hown hK hP (k := k) hk (by decide) rfl (fun _ h => List.mem_cons_of_mem _ (List.mem_append_right _ h)) rfl 0 (by decide) (hts _ (List.mem_of_getElem? (i := 1) rfl)) (fun _ h9 => h9) rfl dX3_growOlder_10 ?_
      refine lv_iload_n hx hb dX3_growOlder_13 rfl (lv_at hl 0 rfl) ?_
      refine g_ialdn (n := 256) (i := i) hx hb hK hP (k := (k + 1)) (kd_3_0 hk) (by decide) rfl (by omega) (by decide) dX3_growOlder_14 ?_
      refine lv_if_ne (tgt := 28) hx hb dX3_growOlder_15 (by decide) (fun c_2 => ?_) (fun c_2 => ?_)
      · skip
        refine lv_iinc (v := nI (i + 1)) (lv' := [(1, .int (nI (i + 1))), (0, .ref (ad k))]) hx hb dX3_growOlder_28 hl (k := 0) rfl (nI_1 i) (by decide) rfl (fun ls hl => ?_)
        refine lv_goto (tgt := 2) hx hb dX3_growOlder_31 (by decide) ?_
        exact ih2 (i + 1) u _ _ _ (by omega) (by rw [gro_f (by rw [hu, gro_1] at c_2; exact c_2)]; exact hu) (by omega) hP hD hS (lv_sub hl [0, 1] rfl)
      · skip
        refine lv_aload_n hx hb dX3_growOlder_18 rfl (lv_at hl 1 rfl) ?_
        refine g_get (κ := 3) (ci := 3) (v := .ref (ad (k + 2))) (C := RX3) (T := TX3) (N := 3) hx hb hts hown hK hP (k := k) hk (by decide) rfl (fun _ h => List.mem_cons_of_mem _ (List.mem_append_right _ h)) rfl 1 (by decide) (hts _ (List.mem_of_getElem? (i := 2) rfl)) (fun _ h9 => h9) rfl dX3_growOlder_19 ?_
        refine lv_iload_n hx hb dX3_growOlder_22 rfl (lv_at hl 0 rfl) ?_
        refine lv_dup2_11 hx hb dX3_growOlder_23 rfl rfl ?_
        refine g_ialdn (n := 256) (i := i) hx hb hK hP (k := (k + 2)) (kd_3_1 hk) (by decide) rfl (by omega) (by decide) dX3_growOlder_24 ?_
        refine lv_iconst (v := nI 1) hx hb dX3_growOlder_25 (by decide) ?_
        refine lv_iadd hx hb dX3_growOlder_26 ?_
        refine g_iastn (n := 256) (i := i) hx hb hK hP hD hS (k := (k + 2)) (kd_3_1 hk) (by decide) (fun _ => rfl) (by omega) (by decide) dX3_growOlder_27 (fun u3 H locs hu3 hP hD hS => ?_)
        refine lv_iinc (v := nI (i + 1)) (lv' := [(1, .int (nI (i + 1))), (0, .ref (ad k))]) hx hb dX3_growOlder_28 hl (k := 0) rfl (nI_1 i) (by decide) rfl (fun ls hl => ?_)
        refine lv_goto (tgt := 2) hx hb dX3_growOlder_31 (by decide) ?_
        exact ih2 (i + 1) u3 _ _ _ (by omega) (by rw [gro_t (by rw [hu, gro_1] at c_2; exact c_2), ← hu]; exact hu3) (by omega) hP hD hS (lv_sub hl [0, 1] rfl)

def f_X3_openCells (I : Mm) (k : Nat) : Int32 := nI (cn (fun c => decide (I (k + 1) c = 0)) 256)
set_option maxHeartbeats 4000000 in
set_option maxRecDepth 100000 in
theorem c_X3_openCells (l : Launch) (D : va_G) (cs : Nat → ClassId) (ad : Nat → Nat) (I : Mm) (sz : Nat) (k : Nat) (hk : kC.getD k 0 = 3) : MetI l yX3_openCells wsX3_openCells ({ frames := 0, cells := 0, slots := 0, locals := 0 }) kC cs D ad I sz [.ref (ad k)] (fun r u => r = f_X3_openCells I k ∧ u = I) 0 0 := by
  refine g_met (cc := cX3_openCells) (maxL := 3) (ret := (some .int)) (by decide) rfl (Nat.le_of_ble_eq_true rfl) ?_
  intro pg e s m args below meth c ls hx hb hr hml hts hown hlocks hsz hP hD hK hN hS hA hl
  have hown : s.vm.findClass RX3 = some m.cls := hown
  have hl : lv_has ls 3 [(0, .ref (ad k))] := hl
  refine lv_iconst (v := nI 0) hx hb dX3_openCells_0 (by decide) ?_
  refine lv_istore_n (lv' := [(1, .int (nI 0)), (0, .ref (ad k))]) hx hb dX3_openCells_1 rfl hl (by decide) rfl (fun ls hl => ?_)
  refine lv_iconst (v := nI 0) hx hb dX3_openCells_2 (by decide) ?_
  refine lv_istore_n (lv' := [(2, .int (nI 0)), (1, .int (nI 0)), (0, .ref (ad k))]) hx hb dX3_openCells_3 rfl hl (by decide) rfl (fun ls hl => ?_)
  suffices KL4 : ∀ (fuel : Nat) (i : Nat) (f : Int32) (H : Heap) (locs : List Loc) (ls : Array Slot), (i ≤ 256) → (f = nI (cn (fun c => decide (I (k + 1) c = 0)) i)) → 256 - i < fuel → va_P D vwCl (gw kC cs ad I) H → va_D (gA kC ad sz) (gw kC cs ad I) → va_S (gA kC ad sz) s.heap H locs → lv_has ls 3 [(2, .int (nI i)), (1, .int f), (0, .ref (ad k))] → W pg l e ({ frames := 0, cells := 0, slots := 0, locals := 0 }) s m args below meth c H locs 0 0 (MQ below (va_Qi (fun r u => r = f_X3_openCells I k ∧ u = I) (wat kC cs D ad (gA kC ad sz)) (gA kC ad sz)) args s 0 0 (gA kC ad sz)) (F0 m 4 ls []) from KL4 _ 0 (nI 0) _ _ _ (by omega) rfl (Nat.lt_succ_self _) hP hD hS (lv_sub hl [0, 1, 2] rfl)
  intro fuel4
  induction fuel4 with
  | zero => intro _ _ _ _ _ _ _ hm; exact absurd hm (Nat.not_lt_zero _)
  | succ fuel4 ih4 =>
    intro i f H locs ls hi hf hm4 hP hD hS hl
    refine lv_iload_n hx hb dX3_openCells_4 rfl (lv_at hl 0 rfl) ?_
    refine lv_sipush (v := nI 256) hx hb dX3_openCells_5 (by decide) ?_
    refine lv_icmp_ge (tgt := 29) hx hb dX3_openCells_8 (by decide) (fun c_1 => ?_) (fun c_1 => ?_)
    · skip
      have nc_1 : 256 ≤ i := (nI_leI (a := 256) (b := i) (by omega) (by omega)).mp c_1
      refine lv_iload_n hx hb dX3_openCells_29 rfl (lv_at hl 1 rfl) ?_
      exact g_iret (v := f) hx hb hr hlocks rfl hP hD hS ⟨by rw [hf, show i = 256 from by omega]; rfl, rfl⟩ dX3_openCells_30
    · skip
      have nc_1 : ¬ 256 ≤ i := fun z9_ => c_1 ((nI_leI (a := 256) (b := i) (by omega) (by omega)).mpr z9_)
      refine lv_aload_n hx hb dX3_openCells_11 rfl (lv_at hl 2 rfl) ?_
      refine g_get (κ := 3) (ci := 3) (v := .ref (ad (k + 1))) (C := RX3) (T := TX3) (N := 3) hx hb hts hown hK hP (k := k) hk (by decide) rfl (fun _ h => List.mem_cons_of_mem _ (List.mem_append_right _ h)) rfl 0 (by decide) (hts _ (List.mem_of_getElem? (i := 1) rfl)) (fun _ h9 => h9) rfl dX3_openCells_12 ?_
      refine lv_iload_n hx hb dX3_openCells_15 rfl (lv_at hl 0 rfl) ?_
      refine g_ialdn (n := 256) (i := i) hx hb hK hP (k := (k + 1)) (kd_3_0 hk) (by decide) rfl (by omega) (by decide) dX3_openCells_16 ?_
      refine lv_if_ne (tgt := 23) hx hb dX3_openCells_17 (by decide) (fun c_2 => ?_) (fun c_2 => ?_)
      · skip
        refine lv_iinc (v := nI (i + 1)) (lv' := [(2, .int (nI (i + 1))), (1, .int f), (0, .ref (ad k))]) hx hb dX3_openCells_23 hl (k := 0) rfl (nI_1 i) (by decide) rfl (fun ls hl => ?_)
        refine lv_goto (tgt := 4) hx hb dX3_openCells_26 (by decide) ?_
        exact ih4 (i + 1) f _ _ _ (by omega) (by rw [hf, cn_f (decide_eq_false c_2)]) (by omega) hP hD hS (lv_sub hl [0, 1, 2] rfl)
      · skip
        refine lv_iinc (v := f + 1) (lv' := [(1, .int (f + 1)), (2, .int (nI i)), (0, .ref (ad k))]) hx hb dX3_openCells_20 hl (k := 1) rfl rfl (by decide) rfl (fun ls hl => ?_)
        refine lv_iinc (v := nI (i + 1)) (lv' := [(2, .int (nI (i + 1))), (1, .int (f + 1)), (0, .ref (ad k))]) hx hb dX3_openCells_23 hl (k := 1) rfl (nI_1 i) (by decide) rfl (fun ls hl => ?_)
        refine lv_goto (tgt := 4) hx hb dX3_openCells_26 (by decide) ?_
        exact ih4 (i + 1) (f + 1) _ _ _ (by omega) (by rw [hf, cn_t (decide_eq_true c_2)]; exact nI_1 _) (by omega) hP hD hS (lv_sub hl [0, 1, 2] rfl)

def f_X3_postsSet (I : Mm) (k : Nat) : Int32 := sm (fun c => I (k + 3) c) 256
set_option maxHeartbeats 4000000 in
set_option maxRecDepth 100000 in
theorem c_X3_postsSet (l : Launch) (D : va_G) (cs : Nat → ClassId) (ad : Nat → Nat) (I : Mm) (sz : Nat) (k : Nat) (hk : kC.getD k 0 = 3) : MetI l yX3_postsSet wsX3_postsSet ({ frames := 0, cells := 0, slots := 0, locals := 0 }) kC cs D ad I sz [.ref (ad k)] (fun r u => r = f_X3_postsSet I k ∧ u = I) 0 0 := by
  refine g_met (cc := cX3_postsSet) (maxL := 3) (ret := (some .int)) (by decide) rfl (Nat.le_of_ble_eq_true rfl) ?_
  intro pg e s m args below meth c ls hx hb hr hml hts hown hlocks hsz hP hD hK hN hS hA hl
  have hown : s.vm.findClass RX3 = some m.cls := hown
  have hl : lv_has ls 3 [(0, .ref (ad k))] := hl
  refine lv_iconst (v := nI 0) hx hb dX3_postsSet_0 (by decide) ?_
  refine lv_istore_n (lv' := [(1, .int (nI 0)), (0, .ref (ad k))]) hx hb dX3_postsSet_1 rfl hl (by decide) rfl (fun ls hl => ?_)
  refine lv_iconst (v := nI 0) hx hb dX3_postsSet_2 (by decide) ?_
  refine lv_istore_n (lv' := [(2, .int (nI 0)), (1, .int (nI 0)), (0, .ref (ad k))]) hx hb dX3_postsSet_3 rfl hl (by decide) rfl (fun ls hl => ?_)
  suffices KL4 : ∀ (fuel : Nat) (i : Nat) (f : Int32) (H : Heap) (locs : List Loc) (ls : Array Slot), (i ≤ 256) → (f = sm (fun c => I (k + 3) c) i) → 256 - i < fuel → va_P D vwCl (gw kC cs ad I) H → va_D (gA kC ad sz) (gw kC cs ad I) → va_S (gA kC ad sz) s.heap H locs → lv_has ls 3 [(2, .int (nI i)), (1, .int f), (0, .ref (ad k))] → W pg l e ({ frames := 0, cells := 0, slots := 0, locals := 0 }) s m args below meth c H locs 0 0 (MQ below (va_Qi (fun r u => r = f_X3_postsSet I k ∧ u = I) (wat kC cs D ad (gA kC ad sz)) (gA kC ad sz)) args s 0 0 (gA kC ad sz)) (F0 m 4 ls []) from KL4 _ 0 (nI 0) _ _ _ (by omega) rfl (Nat.lt_succ_self _) hP hD hS (lv_sub hl [0, 1, 2] rfl)
  intro fuel4
  induction fuel4 with
  | zero => intro _ _ _ _ _ _ _ hm; exact absurd hm (Nat.not_lt_zero _)
  | succ fuel4 ih4 =>
    intro i f H locs ls hi hf hm4 hP hD hS hl
    refine lv_iload_n hx hb dX3_postsSet_4 rfl (lv_at hl 0 rfl) ?_
    refine lv_sipush (v := nI 256) hx hb dX3_postsSet_5 (by decide) ?_
    refine lv_icmp_ge (tgt := 26) hx hb dX3_postsSet_8 (by decide) (fun c_1 => ?_) (fun c_1 => ?_)
    · skip
      have nc_1 : 256 ≤ i := (nI_leI (a := 256) (b := i) (by omega) (by omega)).mp c_1
      refine lv_iload_n hx hb dX3_postsSet_26 rfl (lv_at hl 1 rfl) ?_
      exact g_iret (v := f) hx hb hr hlocks rfl hP hD hS ⟨by rw [hf, show i = 256 from by omega]; rfl, rfl⟩ dX3_postsSet_27
    · skip
      have nc_1 : ¬ 256 ≤ i := fun z9_ => c_1 ((nI_leI (a := 256) (b := i) (by omega) (by omega)).mpr z9_)
      refine lv_iload_n hx hb dX3_postsSet_11 rfl (lv_at hl 1 rfl) ?_
      refine lv_aload_n hx hb dX3_postsSet_12 rfl (lv_at hl 2 rfl) ?_
      refine g_get (κ := 3) (ci := 3) (v := .ref (ad (k + 3))) (C := RX3) (T := TX3) (N := 3) hx hb hts hown hK hP (k := k) hk (by decide) rfl (fun _ h => List.mem_cons_of_mem _ (List.mem_append_right _ h)) rfl 2 (by decide) (hts _ (List.mem_of_getElem? (i := 1) rfl)) (fun _ h9 => h9) rfl dX3_postsSet_13 ?_
      refine lv_iload_n hx hb dX3_postsSet_16 rfl (lv_at hl 0 rfl) ?_
      refine g_ialdn (n := 256) (i := i) hx hb hK hP (k := (k + 3)) (kd_3_2 hk) (by decide) rfl (by omega) (by decide) dX3_postsSet_17 ?_
      refine lv_iadd hx hb dX3_postsSet_18 ?_
      refine lv_istore_n (lv' := [(1, .int (f + (I (k + 3) i))), (2, .int (nI i)), (0, .ref (ad k))]) hx hb dX3_postsSet_19 rfl hl (by decide) rfl (fun ls hl => ?_)
      refine lv_iinc (v := nI (i + 1)) (lv' := [(2, .int (nI (i + 1))), (1, .int (f + (I (k + 3) i))), (0, .ref (ad k))]) hx hb dX3_postsSet_20 hl (k := 1) rfl (nI_1 i) (by decide) rfl (fun ls hl => ?_)
      refine lv_goto (tgt := 4) hx hb dX3_postsSet_23 (by decide) ?_
      exact ih4 (i + 1) (f + (I (k + 3) i)) _ _ _ (by omega) (by rw [hf]; rfl) (by omega) hP hD hS (lv_sub hl [0, 1, 2] rfl)
