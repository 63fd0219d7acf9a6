def f_X1_stepsTo (I : Mm) (k : Nat) (a : Int32) : Int32 := (if a < 0 then -1 else (if (nI 256) ≤ a then -1 else I (k + 1) a.toNatClampNeg))
set_option maxHeartbeats 4000000 in
set_option maxRecDepth 100000 in
theorem c_X1_stepsTo (l : Launch) (D : va_G) (cs : Nat → ClassId) (ad : Nat → Nat) (I : Mm) (sz : Nat) (k : Nat) (hk : kC.getD k 0 = 4) (a : Int32) : MetI l yX1_stepsTo wsX1_stepsTo ({ frames := 0, cells := 0, slots := 0, locals := 0 }) kC cs D ad I sz [.ref (ad k), .int a] (fun r u => r = f_X1_stepsTo I k a ∧ u = I) 0 0 := by
  refine g_met (cc := cX1_stepsTo) (maxL := 2) (ret := (some .int)) (by decide) rfl (Nat.le_of_ble_eq_true rfl) ?_
  intro pg e s m args below meth c ls hx hb hr hml hts hown hlocks hsz hP hD hK hN hS hA hl
  have hown : s.vm.findClass RX1 = some m.cls := hown
  have hl : lv_has ls 2 [(0, .ref (ad k)), (1, .int a)] := hl
  refine lv_iload_n hx hb dX1_stepsTo_0 rfl (lv_at hl 1 rfl) ?_
  refine lv_if_lt (tgt := 20) hx hb dX1_stepsTo_1 (by decide) (fun c_1 => ?_) (fun c_1 => ?_)
  · skip
    refine lv_iconst (v := -1) hx hb dX1_stepsTo_20 (by decide) ?_
    exact g_iret (v := -1) hx hb hr hlocks rfl hP hD hS ⟨(by simp only [f_X1_stepsTo, if_pos c_1]), rfl⟩ dX1_stepsTo_21
  · skip
    refine lv_iload_n hx hb dX1_stepsTo_4 rfl (lv_at hl 1 rfl) ?_
    refine lv_sipush (v := nI 256) hx hb dX1_stepsTo_5 (by decide) ?_
    refine lv_icmp_ge (tgt := 20) hx hb dX1_stepsTo_8 (by decide) (fun c_2 => ?_) (fun c_2 => ?_)
    · skip
      refine lv_iconst (v := -1) hx hb dX1_stepsTo_20 (by decide) ?_
      exact g_iret (v := -1) hx hb hr hlocks rfl hP hD hS ⟨(by simp only [f_X1_stepsTo, if_neg c_1, if_pos c_2]), rfl⟩ dX1_stepsTo_21
    · skip
      refine lv_aload_n hx hb dX1_stepsTo_11 rfl (lv_at hl 0 rfl) ?_
      refine g_get (κ := 4) (ci := 1) (v := .ref (ad (k + 1))) (C := RX1) (T := TX1) (N := 4) hx hb hts hown hK hP (k := k) hk (by decide) rfl (fun _ h => List.mem_cons_of_mem _ (List.mem_append_right _ h)) rfl 0 (by decide) (hts _ (List.mem_of_getElem? (i := 1) rfl)) (fun _ h9 => h9) rfl dX1_stepsTo_12 ?_
      refine lv_iload_n hx hb dX1_stepsTo_15 rfl (lv_at hl 1 rfl) ?_
      refine g_iald (n := 256) (i := a) hx hb hK hP (k := (k + 1)) (kd_4_0 hk) (by decide) rfl (vp_in_c c_1 c_2 (by decide)) dX1_stepsTo_16 ?_
      refine lv_goto (tgt := 21) hx hb dX1_stepsTo_17 (by decide) ?_
      exact g_iret (v := I (k + 1) a.toNatClampNeg) hx hb hr hlocks rfl hP hD hS ⟨(by simp only [f_X1_stepsTo, if_neg c_1, if_neg c_2]), rfl⟩ dX1_stepsTo_21

def f_X1_holds (I : Mm) (k : Nat) (a : Int32) : Int32 := (if (f_X1_stepsTo I k a) = (-1) then nI 0 else nI 1)
set_option maxHeartbeats 4000000 in
set_option maxRecDepth 100000 in
theorem c_X1_holds (l : Launch) (D : va_G) (cs : Nat → ClassId) (ad : Nat → Nat) (I : Mm) (sz : Nat) (k : Nat) (hk : kC.getD k 0 = 4) (a : Int32) : MetI l yX1_holds wsX1_holds ({ frames := 1, cells := 0, slots := 0, locals := 21 }) kC cs D ad I sz [.ref (ad k), .int a] (fun r u => r = f_X1_holds I k a ∧ u = I) 0 0 := by
  refine g_met (cc := cX1_holds) (maxL := 2) (ret := (some .boolean)) (by decide) rfl (Nat.le_of_ble_eq_true rfl) ?_
  intro pg e s m args below meth c ls hx hb hr hml hts hown hlocks hsz hP hD hK hN hS hA hl
  have hown : s.vm.findClass RX1 = some m.cls := hown
  have hl : lv_has ls 2 [(0, .ref (ad k)), (1, .int a)] := hl
  refine lv_aload_n hx hb dX1_holds_0 rfl (lv_at hl 0 rfl) ?_
  refine lv_iload_n hx hb dX1_holds_1 rfl (lv_at hl 1 rfl) ?_
  refine g_callF (F := f_X1_stepsTo I k a) hD hS hA (va_runV (As := [.int a]) (rest := []) ⟨hx, hb, hml, hown, hts⟩ (c_X1_stepsTo l D cs ad I s.heap.size k hk a) (cwV 1 hts gX1_holds_X1_stepsTo rfl rfl rfl (by decide +kernel) ⟨Nat.le_of_ble_eq_true rfl, Nat.le_of_ble_eq_true rfl⟩) (g_preV hP hD hK hN (k := k) hk (by decide) rfl rfl rfl rfl) rfl rfl hl.1 rfl (lv_room (Nat.le_of_ble_eq_true rfl)) dX1_holds_2 ⟨Nat.le_of_ble_eq_true rfl, Nat.le_of_ble_eq_true rfl⟩) (fun H locs hP hD hS => ?_)
  refine lv_iconst (v := -1) hx hb dX1_holds_5 (by decide) ?_
  refine lv_icmp_eq (tgt := 13) hx hb dX1_holds_6 (by decide) (fun c_1 => ?_) (fun c_1 => ?_)
  · skip
    refine lv_iconst (v := nI 0) hx hb dX1_holds_13 (by decide) ?_
    exact g_iret (v := nI 0) hx hb hr hlocks rfl hP hD hS ⟨(by simp only [f_X1_holds, if_pos c_1]), rfl⟩ dX1_holds_14
  · skip
    refine lv_iconst (v := nI 1) hx hb dX1_holds_9 (by decide) ?_
    refine lv_goto (tgt := 14) hx hb dX1_holds_10 (by decide) ?_
    exact g_iret (v := nI 1) hx hb hr hlocks rfl hP hD hS ⟨(by simp only [f_X1_holds, if_neg c_1]), rfl⟩ dX1_holds_14

def m_X1_add (I : Mm) (k : Nat) (a : Int32) (b : Int32) (n : Nat) : Mm := (if a < 0 then I else (if (nI 256) ≤ a then I else (if (I (k + 1) a.toNatClampNeg) = (-1) then (if (nI 256) ≤ (nI n) then I else (wr (wr (wr I (k + 1) a.toNatClampNeg b) (k + 2) n a) k 2 (nI (n + 1)))) else I)))
set_option maxHeartbeats 4000000 in
set_option maxRecDepth 100000 in
theorem c_X1_add (l : Launch) (D : va_G) (cs : Nat → ClassId) (ad : Nat → Nat) (I : Mm) (sz : Nat) (k : Nat) (hk : kC.getD k 0 = 4) (a : Int32) (b : Int32) (n : Nat) (hn : I k 2 = nI n) (hn2 : n ≤ 256) : MetN l yX1_add wsX1_add ({ frames := 0, cells := 0, slots := 0, locals := 0 }) kC cs D ad I sz [.ref (ad k), .int a, .int b] (fun u => u = m_X1_add I k a b n) 0 0 := by
  refine g_met (cc := cX1_add) (maxL := 3) (ret := none) (by decide) rfl (Nat.le_of_ble_eq_true rfl) ?_
  intro pg e s m args below meth c ls hx hb hr hml hts hown hlocks hsz hP hD hK hN hS hA hl
  have hown : s.vm.findClass RX1 = some m.cls := hown
  have hl : lv_has ls 3 [(0, .ref (ad k)), (1, .int a), (2, .int b)] := hl
  refine lv_iload_n hx hb dX1_add_0 rfl (lv_at hl 1 rfl) ?_
  refine lv_if_lt (tgt := 58) hx hb dX1_add_1 (by decide) (fun c_1 => ?_) (fun c_1 => ?_)
  · skip
    exact g_vret hx hb hr hlocks hP hD hS (by simp only [m_X1_add, if_pos c_1]) dX1_add_58
  · skip
    refine lv_iload_n hx hb dX1_add_4 rfl (lv_at hl 1 rfl) ?_
    refine lv_sipush (v := nI 256) hx hb dX1_add_5 (by decide) ?_
    refine lv_icmp_ge (tgt := 58) hx hb dX1_add_8 (by decide) (fun c_2 => ?_) (fun c_2 => ?_)
    · skip
      exact g_vret hx hb hr hlocks hP hD hS (by simp only [m_X1_add, if_neg c_1, if_pos c_2]) dX1_add_58
    · skip
      refine lv_aload_n hx hb dX1_add_11 rfl (lv_at hl 0 rfl) ?_
      refine g_get (κ := 4) (ci := 1) (v := .ref (ad (k + 1))) (C := RX1) (T := TX1) (N := 4) hx hb hts hown hK hP (k := k) hk (by decide) rfl (fun _ h => List.mem_cons_of_mem _ (List.mem_append_right _ h)) rfl 0 (by decide) (hts _ (List.mem_of_getElem? (i := 1) rfl)) (fun _ h9 => h9) rfl dX1_add_12 ?_
      refine lv_iload_n hx hb dX1_add_15 rfl (lv_at hl 1 rfl) ?_
      refine g_iald (n := 256) (i := a) hx hb hK hP (k := (k + 1)) (kd_4_0 hk) (by decide) rfl (vp_in_c c_1 c_2 (by decide)) dX1_add_16 ?_
      refine lv_iconst (v := -1) hx hb dX1_add_17 (by decide) ?_
      refine lv_icmp_ne (tgt := 58) hx hb dX1_add_18 (by decide) (fun c_3 => ?_) (fun c_3 => ?_)
      · skip
        exact g_vret hx hb hr hlocks hP hD hS (by simp only [m_X1_add, if_neg c_1, if_neg c_2, if_neg c_3]) dX1_add_58
      · skip
        refine lv_aload_n hx hb dX1_add_21 rfl (lv_at hl 0 rfl) ?_
        refine g_get (κ := 4) (ci := 1) (v := .int (I k 2)) (C := RX1) (T := TX1) (N := 4) hx hb hts hown hK hP (k := k) hk (by decide) rfl (fun _ h => List.mem_cons_of_mem _ (List.mem_append_right _ h)) rfl 2 (by decide) (hts _ (List.mem_of_getElem? (i := 2) rfl)) (fun _ h9 => h9) rfl dX1_add_22 ?_
        rw [show I k 2 = nI n from hn]
        refine lv_sipush (v := nI 256) hx hb dX1_add_25 (by decide) ?_
        refine lv_icmp_ge (tgt := 58) hx hb dX1_add_28 (by decide) (fun c_4 => ?_) (fun c_4 => ?_)
        · skip
          have nc_4 : 256 ≤ n := (nI_leI (a := 256) (b := n) (by omega) (by omega)).mp c_4
          exact g_vret hx hb hr hlocks hP hD hS (by simp only [m_X1_add, if_neg c_1, if_neg c_2, if_pos c_3, if_pos c_4]) dX1_add_58
        · skip
          have nc_4 : ¬ 256 ≤ n := fun z9_ => c_4 ((nI_leI (a := 256) (b := n) (by omega) (by omega)).mpr z9_)
          refine lv_aload_n hx hb dX1_add_31 rfl (lv_at hl 0 rfl) ?_
          refine g_get (κ := 4) (ci := 1) (v := .ref (ad (k + 1))) (C := RX1) (T := TX1) (N := 4) hx hb hts hown hK hP (k := k) hk (by decide) rfl (fun _ h => List.mem_cons_of_mem _ (List.mem_append_right _ h)) rfl 0 (by decide) (hts _ (List.mem_of_getElem? (i := 1) rfl)) (fun _ h9 => h9) rfl dX1_add_32 ?_
          refine lv_iload_n hx hb dX1_add_35 rfl (lv_at hl 1 rfl) ?_
          refine lv_iload_n hx hb dX1_add_36 rfl (lv_at hl 2 rfl) ?_
          refine g_iast (n := 256) (i := a) hx hb hK hP hD hS (k := (k + 1)) (kd_4_0 hk) (by decide) (fun _ => rfl) (vp_in_c c_1 c_2 (by decide)) dX1_add_37 (fun u5 H locs hu5 hP hD hS => ?_)
          refine lv_aload_n hx hb dX1_add_38 rfl (lv_at hl 0 rfl) ?_
          refine g_get (κ := 4) (ci := 1) (v := .ref (ad (k + 2))) (C := RX1) (T := TX1) (N := 4) hx hb hts hown hK hP (k := k) hk (by decide) rfl (fun _ h => List.mem_cons_of_mem _ (List.mem_append_right _ h)) rfl 1 (by decide) (hts _ (List.mem_of_getElem? (i := 3) rfl)) (fun _ h9 => h9) rfl dX1_add_39 ?_
          refine lv_aload_n hx hb dX1_add_42 rfl (lv_at hl 0 rfl) ?_
          refine g_get (κ := 4) (ci := 1) (v := .int (u5 k 2)) (C := RX1) (T := TX1) (N := 4) hx hb hts hown hK hP (k := k) hk (by decide) rfl (fun _ h => List.mem_cons_of_mem _ (List.mem_append_right _ h)) rfl 2 (by decide) (hts _ (List.mem_of_getElem? (i := 2) rfl)) (fun _ h9 => h9) rfl dX1_add_43 ?_
          rw [show u5 k 2 = nI n from (by rw [hu5, wr_n _ _ _ (by omega)]; exact hn)]
          refine lv_iload_n hx hb dX1_add_46 rfl (lv_at hl 1 rfl) ?_
          refine g_iastn (n := 256) (i := n) hx hb hK hP hD hS (k := (k + 2)) (kd_4_1 hk) (by decide) (fun _ => rfl) (by omega) (by decide) dX1_add_47 (fun u6 H locs hu6 hP hD hS => ?_)
          refine lv_aload_n hx hb dX1_add_48 rfl (lv_at hl 0 rfl) ?_
          refine lv_dup hx hb dX1_add_49 rfl ?_
          refine g_get (κ := 4) (ci := 1) (v := .int (u6 k 2)) (C := RX1) (T := TX1) (N := 4) hx hb hts hown hK hP (k := k) hk (by decide) rfl (fun _ h => List.mem_cons_of_mem _ (List.mem_append_right _ h)) rfl 2 (by decide) (hts _ (List.mem_of_getElem? (i := 2) rfl)) (fun _ h9 => h9) rfl dX1_add_50 ?_
          rw [show u6 k 2 = nI n from (by rw [hu6, wr_n _ _ _ (by omega)]; rw [hu5, wr_n _ _ _ (by omega)]; exact hn)]
          refine lv_iconst (v := nI 1) hx hb dX1_add_53 (by decide) ?_
          refine lv_iadd hx hb dX1_add_54 ?_
          rw [nI_add n 1]
          refine g_put (κ := 4) (ci := 1) (v := nI (n + 1)) (ty := .int) (C := RX1) (T := TX1) (N := 4) hx hb hts hown hK hP hD hS (k := k) hk (by decide) rfl (fun _ h => List.mem_cons_of_mem _ (List.mem_append_right _ h)) tyX1 tyX1_ok nmX1 rfl 2 (by decide) (hts _ (List.mem_of_getElem? (i := 2) rfl)) (fun _ h9 => h9) rfl (by decide +kernel) rfl rfl (Nat.le_of_ble_eq_true rfl) rfl dX1_add_55 (fun u7 H locs hu7 hP hD hS => ?_)
          exact g_vret hx hb hr hlocks hP hD hS (by subst hu5; subst hu6; subst hu7; simp only [m_X1_add, if_neg c_1, if_neg c_2, if_pos c_3, if_neg c_4]) dX1_add_58

def m_X1_shut (I : Mm) (k : Nat) (a : Int32) (n : Nat) : Mm := (wr (m_X1_add I k a (nI 0) n) k 3 ((m_X1_add I k a (nI 0) n) k 2))
set_option maxHeartbeats 4000000 in
set_option maxRecDepth 100000 in
theorem c_X1_shut (l : Launch) (D : va_G) (cs : Nat → ClassId) (ad : Nat → Nat) (I : Mm) (sz : Nat) (k : Nat) (hk : kC.getD k 0 = 4) (a : Int32) (n : Nat) (hn : I k 2 = nI n) (hn2 : n ≤ 256) : MetN l yX1_shut wsX1_shut ({ frames := 1, cells := 0, slots := 0, locals := 22 }) kC cs D ad I sz [.ref (ad k), .int a] (fun u => u = m_X1_shut I k a n) 0 0 := by
  refine g_met (cc := cX1_shut) (maxL := 2) (ret := none) (by decide) rfl (Nat.le_of_ble_eq_true rfl) ?_
  intro pg e s m args below meth c ls hx hb hr hml hts hown hlocks hsz hP hD hK hN hS hA hl
  have hown : s.vm.findClass RX1 = some m.cls := hown
  have hl : lv_has ls 2 [(0, .ref (ad k)), (1, .int a)] := hl
  refine lv_aload_n hx hb dX1_shut_0 rfl (lv_at hl 0 rfl) ?_
  refine lv_iload_n hx hb dX1_shut_1 rfl (lv_at hl 1 rfl) ?_
  refine lv_iconst (v := nI 0) hx hb dX1_shut_2 (by decide) ?_
  refine g_callM (M := m_X1_add I k a (nI 0) n) hD hS hA (va_runV (As := [.int a, .int (nI 0)]) (rest := []) ⟨hx, hb, hml, hown, hts⟩ (c_X1_add l D cs ad I s.heap.size k hk a (nI 0) n hn hn2) (cwV 2 hts gX1_shut_X1_add rfl rfl rfl (by decide +kernel) ⟨Nat.le_of_ble_eq_true rfl, Nat.le_of_ble_eq_true rfl⟩) (g_preV hP hD hK hN (k := k) hk (by decide) rfl rfl rfl rfl) rfl rfl hl.1 rfl (lv_room (Nat.le_of_ble_eq_true rfl)) dX1_shut_3 ⟨Nat.le_of_ble_eq_true rfl, Nat.le_of_ble_eq_true rfl⟩) (fun u1 H locs hu1 hP hD hS => ?_)
  refine lv_aload_n hx hb dX1_shut_6 rfl (lv_at hl 0 rfl) ?_
  refine lv_aload_n hx hb dX1_shut_7 rfl (lv_at hl 0 rfl) ?_
  refine g_get (κ := 4) (ci := 1) (v := .int (u1 k 2)) (C := RX1) (T := TX1) (N := 4) hx hb hts hown hK hP (k := k) hk (by decide) rfl (fun _ h => List.mem_cons_of_mem _ (List.mem_append_right _ h)) rfl 2 (by decide) (hts _ (List.mem_of_getElem? (i := 1) rfl)) (fun _ h9 => h9) rfl dX1_shut_8 ?_
  refine g_put (κ := 4) (ci := 1) (v := u1 k 2) (ty := .int) (C := RX1) (T := TX1) (N := 4) hx hb hts hown hK hP hD hS (k := k) hk (by decide) rfl (fun _ h => List.mem_cons_of_mem _ (List.mem_append_right _ h)) tyX1 tyX1_ok nmX1 rfl 3 (by decide) (hts _ (List.mem_of_getElem? (i := 2) rfl)) (fun _ h9 => h9) rfl (by decide +kernel) rfl rfl (Nat.le_of_ble_eq_true rfl) rfl dX1_shut_11 (fun u2 H locs hu2 hP hD hS => ?_)
  exact g_vret hx hb hr hlocks hP hD hS (by subst hu1; subst hu2; simp only [m_X1_shut]) dX1_shut_14

theorem cn_all {p : Nat → Bool} : ∀ {N : Nat}, (∀ c, c < N → p c = false) → cn p N = 0
  | 0, _ => rfl
  | N + 1, h => by rw [cn_f (h N (by omega))]; exact cn_all (fun c hc => h c (by omega))
theorem cn_cg {p q : Nat → Bool} : ∀ {N : Nat}, (∀ c, c < N → p c = q c) → cn p N = cn q N
  | 0, _ => rfl
  | N + 1, h => by simp only [cn]; rw [h N (by omega), cn_cg (fun c hc => h c (by omega))]
theorem cn_lt {p : Nat → Bool} {c : Nat} (hp : p c = false) : ∀ {N : Nat}, c < N → cn p N < N
  | 0, h => absurd h (Nat.not_lt_zero _)
  | N + 1, h => by
    rcases Nat.lt_or_ge c N with a | a
    · have := cn_lt hp a
      simp only [cn]
      split <;> omega
    · have e : c = N := by omega
      subst e
      rw [cn_f hp]
      have := cn_le p c
      omega
theorem cn_set {p q : Nat → Bool} {c : Nat} (hp : p c = false) (hq : q c = true) (hr : ∀ j, j ≠ c → q j = p j) : ∀ {N : Nat}, c < N → cn q N = cn p N + 1
  | 0, h => absurd h (Nat.not_lt_zero _)
  | N + 1, h => by
    rcases Nat.lt_or_ge c N with a | a
    · have := cn_set hp hq hr a
      simp only [cn]
      rw [this, hr N (by omega)]
      omega
    · have e : c = N := by omega
      subst e
      rw [cn_f hp, cn_t hq]
      rw [cn_cg (fun j hj => hr j (by omega))]
/-- the queue holds just the marked cells, each once -/
def RQ (I : Mm) (k n : Nat) (q : Nat → Nat) : Prop :=
  n ≤ 256 ∧ I k 2 = nI n ∧ (∀ j, j < n → q j < 256) ∧ (∀ j, j < n → I (k + 2) j = nI (q j)) ∧ (∀ j, j < n → I (k + 1) (q j) ≠ -1) ∧ (∀ c, c < 256 → I (k + 1) c ≠ -1 → ∃ j, j < n ∧ q j = c) ∧ cn (fun c => decide (I (k + 1) c ≠ -1)) 256 = n
theorem clear_s {u u' : Mm} {k i : Nat} {q : Nat → Nat} (e : u' = wr u (k + 1) (q i) (-1)) (h : ∀ j, j < i → u (k + 1) (q j) = -1) : ∀ j, j < i + 1 → u' (k + 1) (q j) = -1 := by
  intro j hj
  rw [e]
  by_cases z : q j = q i
  · rw [z]; exact wr_ss _ _ _ _
  · rw [wr_sn _ _ _ z]
    rcases Nat.lt_or_ge j i with y | y
    · exact h j y
    · exact absurd (by rw [show j = i from by omega]) z
def m_X1_clear (I : Mm) (k : Nat) : Mm := wr (wr (wrA I (k + 1) (fun c => if c < 256 then -1 else I (k + 1) c)) k 2 (nI 0)) k 3 (nI 0)
theorem clear_post {I u : Mm} {k n : Nat} {q : Nat → Nat} (h : RQ I k n q) (hu1 : ∀ a, a ≠ k + 1 → u a = I a) (hu2 : ∀ j, j < n → u (k + 1) (q j) = -1) (hu3 : ∀ c, (∀ j, j < n → q j ≠ c) → u (k + 1) c = I (k + 1) c) : u = wrA I (k + 1) (fun c => if c < 256 then -1 else I (k + 1) c) := by
  funext a
  by_cases ha : a = k + 1
  · subst ha
    rw [wrA_s]
    funext c
    by_cases hc : c < 256
    · rw [if_pos hc]
      by_cases hj : ∃ j, j < n ∧ q j = c
      · obtain ⟨j, h1, h2⟩ := hj
        rw [← h2]; exact hu2 j h1
      · rw [hu3 c (fun j h1 h2 => hj ⟨j, h1, h2⟩)]
        by_cases hm : I (k + 1) c = -1
        · exact hm
        · exact absurd (h.2.2.2.2.2.1 c hc hm) hj
    · rw [if_neg hc]
      exact hu3 c (fun j h1 h2 => hc (by rw [← h2]; exact h.2.2.1 j h1))
  · rw [wrA_n _ _ ha]; exact hu1 a ha
theorem clear_RQ (I : Mm) (k : Nat) (q : Nat → Nat) : RQ (m_X1_clear I k) k 0 q := by
  have h1 : ∀ c, c < 256 → m_X1_clear I k (k + 1) c = -1 := by
    intro c hc
    simp only [m_X1_clear]
    rw [wr_n _ _ _ (by omega), wr_n _ _ _ (by omega), wrA_s, if_pos hc]
  refine ⟨by omega, ?_, fun j hj => absurd hj (Nat.not_lt_zero _), fun j hj => absurd hj (Nat.not_lt_zero _), fun j hj => absurd hj (Nat.not_lt_zero _), fun c hc h => absurd (h1 c hc) h, cn_all (fun c hc => decide_eq_false (fun z => z (h1 c hc)))⟩
  simp only [m_X1_clear]
  rw [wr_sn _ _ _ (by omega), wr_ss]

set_option maxHeartbeats 4000000 in
set_option maxRecDepth 100000 in
theorem c_X1_clear (l : Launch) (D : va_G) (cs : Nat → ClassId) (ad : Nat → Nat) (I : Mm) (sz : Nat) (k : Nat) (hk : kC.getD k 0 = 4) (n : Nat) (q : Nat → Nat) (hq : RQ I k n q) : MetN l yX1_clear wsX1_clear ({ frames := 0, cells := 0, slots := 0, locals := 0 }) kC cs D ad I sz [.ref (ad k)] (fun u => u = m_X1_clear I k) 0 0 := by
  refine g_met (cc := cX1_clear) (maxL := 3) (ret := none) (by decide) rfl (Nat.le_of_ble_eq_true rfl) ?_
  intro pg e s m args below meth c ls hx hb hr hml hts hown hlocks hsz hP hD hK hN hS hA hl
  have hown : s.vm.findClass RX1 = some m.cls := hown
  have hl : lv_has ls 3 [(0, .ref (ad k))] := hl
  have hn := hq.1
  refine lv_iconst (v := nI 0) hx hb dX1_clear_0 (by decide) ?_
  refine lv_istore_n (lv' := [(1, .int (nI 0)), (0, .ref (ad k))]) hx hb dX1_clear_1 rfl hl (by decide) rfl (fun ls hl => ?_)
  suffices KL2 : ∀ (fuel : Nat) (i : Nat) (u : Mm) (H : Heap) (locs : List Loc) (ls : Array Slot), (i ≤ n) → (∀ a, a ≠ k + 1 → u a = I a) → (∀ j, j < i → u (k + 1) (q j) = -1) → (∀ c, (∀ j, j < i → q j ≠ c) → u (k + 1) c = I (k + 1) c) → n - i < fuel → va_P D vwCl (gw kC cs ad u) H → va_D (gA kC ad sz) (gw kC cs ad u) → va_S (gA kC ad sz) s.heap H locs → lv_has ls 3 [(1, .int (nI i)), (0, .ref (ad k))] → W pg l e ({ frames := 0, cells := 0, slots := 0, locals := 0 }) s m args below meth c H locs 0 0 (MQ below (va_Qv (fun u => u = m_X1_clear I k) (wat kC cs D ad (gA kC ad sz)) (gA kC ad sz)) args s 0 0 (gA kC ad sz)) (F0 m 2 ls []) from KL2 _ 0 I _ _ _ (by omega) (fun _ _ => rfl) (fun j hj => absurd hj (Nat.not_lt_zero _)) (fun _ _ => rfl) (Nat.lt_succ_self _) hP hD hS (lv_sub hl [0, 1] rfl)
  intro fuel2
  induction fuel2 with
  | zero => intro _ _ _ _ _ _ _ _ _ hm; exact absurd hm (Nat.not_lt_zero _)
  | succ fuel2 ih2 =>
    intro i u H locs ls hi hv1 hv2 hv3 hm2 hP hD hS hl
    refine lv_iload_n hx hb dX1_clear_2 rfl (lv_at hl 0 rfl) ?_
    refine lv_aload_n hx hb dX1_clear_3 rfl (lv_at hl 1 rfl) ?_
    refine g_get (κ := 4) (ci := 1) (v := .int (u k 2)) (C := RX1) (T := TX1) (N := 4) hx hb hts hown hK hP (k := k) hk (by decide) rfl (fun _ h => List.mem_cons_of_mem _ (List.mem_append_right _ h)) rfl 2 (by decide) (hts _ (List.mem_of_getElem? (i := 1) rfl)) (fun _ h9 => h9) rfl dX1_clear_4 ?_
    rw [show u k 2 = nI n from (by rw [hv1 k (by omega)]; exact hq.2.1)]
    refine lv_icmp_ge (tgt := 48) hx hb dX1_clear_7 (by decide) (fun c_1 => ?_) (fun c_1 => ?_)
    · skip
      have nc_1 : n ≤ i := (nI_leI (a := n) (b := i) (by omega) (by omega)).mp c_1
      refine lv_aload_n hx hb dX1_clear_48 rfl (lv_at hl 1 rfl) ?_
      refine lv_iconst (v := nI 0) hx hb dX1_clear_49 (by decide) ?_
      refine g_put (κ := 4) (ci := 1) (v := nI 0) (ty := .int) (C := RX1) (T := TX1) (N := 4) hx hb hts hown hK hP hD hS (k := k) hk (by decide) rfl (fun _ h => List.mem_cons_of_mem _ (List.mem_append_right _ h)) tyX1 tyX1_ok nmX1 rfl 2 (by decide) (hts _ (List.mem_of_getElem? (i := 1) rfl)) (fun _ h9 => h9) rfl (by decide +kernel) rfl rfl (Nat.le_of_ble_eq_true rfl) rfl dX1_clear_50 (fun u2 H locs hu2 hP hD hS => ?_)
      refine lv_aload_n hx hb dX1_clear_53 rfl (lv_at hl 1 rfl) ?_
      refine lv_iconst (v := nI 0) hx hb dX1_clear_54 (by decide) ?_
      refine g_put (κ := 4) (ci := 1) (v := nI 0) (ty := .int) (C := RX1) (T := TX1) (N := 4) hx hb hts hown hK hP hD hS (k := k) hk (by decide) rfl (fun _ h => List.mem_cons_of_mem _ (List.mem_append_right _ h)) tyX1 tyX1_ok nmX1 rfl 3 (by decide) (hts _ (List.mem_of_getElem? (i := 4) rfl)) (fun _ h9 => h9) rfl (by decide +kernel) rfl rfl (Nat.le_of_ble_eq_true rfl) rfl dX1_clear_55 (fun u3 H locs hu3 hP hD hS => ?_)
      exact g_vret hx hb hr hlocks hP hD hS (by rw [hu3, hu2, clear_post hq hv1 (by rw [show n = i from by omega]; exact hv2) (by rw [show n = i from by omega]; exact hv3)]; rfl) dX1_clear_58
    · skip
      have nc_1 : ¬ n ≤ i := fun z9_ => c_1 ((nI_leI (a := n) (b := i) (by omega) (by omega)).mpr z9_)
      refine lv_iload_n hx hb dX1_clear_10 rfl (lv_at hl 0 rfl) ?_
      refine lv_sipush (v := nI 256) hx hb dX1_clear_11 (by decide) ?_
      refine lv_icmp_ge (tgt := 48) hx hb dX1_clear_14 (by decide) (fun c_4 => ?_) (fun c_4 => ?_)
      · skip
        have nc_4 : 256 ≤ i := (nI_leI (a := 256) (b := i) (by omega) (by omega)).mp c_4
        exact absurd nc_4 (by omega)
      · skip
        have nc_4 : ¬ 256 ≤ i := fun z9_ => c_4 ((nI_leI (a := 256) (b := i) (by omega) (by omega)).mpr z9_)
        refine lv_aload_n hx hb dX1_clear_17 rfl (lv_at hl 1 rfl) ?_
        refine g_get (κ := 4) (ci := 1) (v := .ref (ad (k + 2))) (C := RX1) (T := TX1) (N := 4) hx hb hts hown hK hP (k := k) hk (by decide) rfl (fun _ h => List.mem_cons_of_mem _ (List.mem_append_right _ h)) rfl 1 (by decide) (hts _ (List.mem_of_getElem? (i := 2) rfl)) (fun _ h9 => h9) rfl dX1_clear_18 ?_
        refine lv_iload_n hx hb dX1_clear_21 rfl (lv_at hl 0 rfl) ?_
        refine g_ialdn (n := 256) (i := i) hx hb hK hP (k := (k + 2)) (kd_4_1 hk) (by decide) rfl (by omega) (by decide) dX1_clear_22 ?_
        rw [show u (k + 2) i = nI (q i) from (by rw [hv1 _ (by omega)]; exact hq.2.2.2.1 i (by omega))]
        have hqi := hq.2.2.1 i (by omega)
        refine lv_istore_n (lv' := [(2, .int (nI (q i))), (1, .int (nI i)), (0, .ref (ad k))]) hx hb dX1_clear_23 rfl hl (by decide) rfl (fun ls hl => ?_)
        refine lv_iload_n hx hb dX1_clear_24 rfl (lv_at hl 0 rfl) ?_
        refine lv_if_lt (tgt := 42) hx hb dX1_clear_25 (by decide) (fun c_5 => ?_) (fun c_5 => ?_)
        · skip
          have nc_5 : (q i) < 0 := (nI_ltI (a := (q i)) (b := 0) (by omega) (by omega)).mp c_5
          exact absurd nc_5 (by omega)
        · skip
          have nc_5 : ¬ (q i) < 0 := fun z9_ => c_5 ((nI_ltI (a := (q i)) (b := 0) (by omega) (by omega)).mpr z9_)
          refine lv_iload_n hx hb dX1_clear_28 rfl (lv_at hl 0 rfl) ?_
          refine lv_sipush (v := nI 256) hx hb dX1_clear_29 (by decide) ?_
          refine lv_icmp_ge (tgt := 42) hx hb dX1_clear_32 (by decide) (fun c_6 => ?_) (fun c_6 => ?_)
          · skip
            have nc_6 : 256 ≤ (q i) := (nI_leI (a := 256) (b := (q i)) (by omega) (by omega)).mp c_6
            exact absurd nc_6 (by omega)
          · skip
            have nc_6 : ¬ 256 ≤ (q i) := fun z9_ => c_6 ((nI_leI (a := 256) (b := (q i)) (by omega) (by omega)).mpr z9_)
            refine lv_aload_n hx hb dX1_clear_35 rfl (lv_at hl 2 rfl) ?_
            refine g_get (κ := 4) (ci := 1) (v := .ref (ad (k + 1))) (C := RX1) (T := TX1) (N := 4) hx hb hts hown hK hP (k := k) hk (by decide) rfl (fun _ h => List.mem_cons_of_mem _ (List.mem_append_right _ h)) rfl 0 (by decide) (hts _ (List.mem_of_getElem? (i := 3) rfl)) (fun _ h9 => h9) rfl dX1_clear_36 ?_
            refine lv_iload_n hx hb dX1_clear_39 rfl (lv_at hl 0 rfl) ?_
            refine lv_iconst (v := -1) hx hb dX1_clear_40 (by decide) ?_
            refine g_iastn (n := 256) (i := (q i)) hx hb hK hP hD hS (k := (k + 1)) (kd_4_0 hk) (by decide) (fun _ => rfl) (by omega) (by decide) dX1_clear_41 (fun u7 H locs hu7 hP hD hS => ?_)
            refine lv_iinc (v := nI (i + 1)) (lv' := [(1, .int (nI (i + 1))), (2, .int (nI (q i))), (0, .ref (ad k))]) hx hb dX1_clear_42 hl (k := 1) rfl (nI_1 i) (by decide) rfl (fun ls hl => ?_)
            refine lv_goto (tgt := 2) hx hb dX1_clear_45 (by decide) ?_
            exact ih2 (i + 1) u7 _ _ _ (by omega) (fun a ha => by rw [hu7, wr_n _ _ _ ha]; exact hv1 a ha) (clear_s hu7 hv2) (fun c hc => by rw [hu7, wr_sn _ _ _ (fun e => hc i (by omega) e.symm)]; exact hv3 c (fun j hj => hc j (by omega))) (by omega) hP hD hS (lv_sub hl [0, 2] rfl)
