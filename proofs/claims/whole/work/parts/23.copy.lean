theorem bl3_o {I : Mm} {k k2 x : Nat} (h : x ≠ k + 1 ∧ x ≠ k + 2 ∧ x ≠ k + 3) : m_X3_becomeLike I k k2 x = I x := by
  simp only [m_X3_becomeLike]
  rw [wrA_n _ _ h.2.2, wrA_n _ _ h.2.1, wrA_n _ _ h.1]
theorem bl4_o {I : Mm} {k k2 x : Nat} (h : x ≠ k ∧ x ≠ k + 8) : m_X4_becomeLike I k k2 x = I x := by
  simp only [m_X4_becomeLike]
  simp only [wr_n _ _ _ h.1, wrA_n _ _ h.2]
def bL (I : Mm) (z z2 : Nat) : Nat → Mm
  | 0 => m_X3_becomeLike I (z + 1) (z2 + 1)
  | i + 1 => m_X4_becomeLike (bL I z z2 i) (z + 8 + (1 + i)) (z2 + 8 + (1 + i))
theorem bL_o {I : Mm} {z z2 x : Nat} (h : x < z + 2 ∨ (z + 4 < x ∧ x < z + 9) ∨ z + 25 ≤ x) : ∀ i, i ≤ 8 → bL I z z2 i x = I x
  | 0, _ => bl3_o (by omega)
  | i + 1, hi => by
    simp only [bL]
    rw [bl4_o (by omega)]
    exact bL_o h i (by omega)
def bl1 (B : Mm) (z z2 : Nat) : Mm := wr B z 3 (B z2 3)
def bl2 (B : Mm) (z z2 : Nat) : Mm := wr B z 4 (B z2 4)
def bl3 (B : Mm) (z z2 : Nat) : Mm := wr B z 5 (B z2 5)
def bl4 (B : Mm) (z z2 : Nat) : Mm := wr B z 6 (B z2 6)
def m_X0_becomeLike (I : Mm) (z z2 : Nat) : Mm := bl4 (bl3 (bl2 (bl1 (bL I z z2 8) z z2) z z2) z z2) z z2

set_option maxHeartbeats 4000000 in
set_option maxRecDepth 100000 in
theorem c_X0_becomeLike (l : Launch) (D : va_G) (cs : Nat → ClassId) (ad : Nat → Nat) (I : Mm) (sz : Nat) (z : Nat) (hz : kC.getD z 0 = 2) (z2 : Nat) (hz2 : kC.getD z2 0 = 2) (hzz : z = z2 + 25) (hbu : ∀ i, i < 8 → I (z2 + 8 + (1 + i)) 4 = 0 ∨ I (z2 + 8 + (1 + i)) 4 = 1) : MetN l yX0_becomeLike wsX0_becomeLike ({ frames := 2, cells := 0, slots := 0, locals := 39 }) kC cs D ad I sz [.ref (ad z), .ref (ad z2)] (fun u => u = m_X0_becomeLike I z z2) 0 0 := by
  refine g_met (cc := cX0_becomeLike) (maxL := 3) (ret := none) (by decide) rfl (Nat.le_of_ble_eq_true rfl) ?_
  intro pg e s m args below meth c ls hx hb hr hml hts hown hlocks hsz hP hD hK hN hS hA hl
  have hown : s.vm.findClass RX0 = some m.cls := hown
  have hl : lv_has ls 3 [(0, .ref (ad z)), (1, .ref (ad z2))] := hl
  refine lv_aload_n hx hb dX0_becomeLike_0 rfl (lv_at hl 0 rfl) ?_
  refine g_get (κ := 2) (ci := 0) (v := .ref (ad (z + 1))) (C := RX0) (T := TX0) (N := 7) hx hb hts hown hK hP (k := z) hz (by decide) rfl (fun _ h => List.mem_cons_of_mem _ (List.mem_append_left _ (List.mem_append_left _ (List.mem_append_right _ h)))) rfl 0 (by decide) (hts _ (List.mem_of_getElem? (i := 1) rfl)) (fun _ h9 => h9) rfl dX0_becomeLike_1 ?_
  refine lv_aload_n hx hb dX0_becomeLike_4 rfl (lv_at hl 1 rfl) ?_
  refine g_get (κ := 2) (ci := 0) (v := .ref (ad (z2 + 1))) (C := RX0) (T := TX0) (N := 7) hx hb hts hown hK hP (k := z2) hz2 (by decide) rfl (fun _ h => List.mem_cons_of_mem _ (List.mem_append_left _ (List.mem_append_left _ (List.mem_append_right _ h)))) rfl 0 (by decide) (hts _ (List.mem_of_getElem? (i := 1) rfl)) (fun _ h9 => h9) rfl dX0_becomeLike_5 ?_
  refine g_callM (M := m_X3_becomeLike I (z + 1) (z2 + 1)) hD hS hA (va_runV (As := [.ref (ad (z2 + 1))]) (rest := []) ⟨hx, hb, hml, hown, hts⟩ (c_X3_becomeLike l D cs ad I s.heap.size (z + 1) (kd_2_0 hz) (z2 + 1) (kd_2_0 hz2)) (cwV 1 hts gX0_becomeLike_X3_becomeLike rfl rfl rfl (by decide +kernel) ⟨Nat.le_of_ble_eq_true rfl, Nat.le_of_ble_eq_true rfl⟩) (g_preV hP hD hK hN (k := (z + 1)) (kd_2_0 hz) (by decide) rfl rfl rfl rfl) rfl rfl hl.1 rfl (lv_room (Nat.le_of_ble_eq_true rfl)) dX0_becomeLike_8 ⟨Nat.le_of_ble_eq_true rfl, Nat.le_of_ble_eq_true rfl⟩) (fun u1 H locs hu1 hP hD hS => ?_)
  refine lv_iconst (v := nI 0) hx hb dX0_becomeLike_11 (by decide) ?_
  refine lv_istore_n (lv' := [(2, .int (nI 0)), (0, .ref (ad z)), (1, .ref (ad z2))]) hx hb dX0_becomeLike_12 rfl hl (by decide) rfl (fun ls hl => ?_)
  suffices KL13 : ∀ (fuel : Nat) (i : Nat) (u : Mm) (H : Heap) (locs : List Loc) (ls : Array Slot), (i ≤ 8) → (u = bL I z z2 i) → 8 - i < fuel → va_P D vwCl (gw kC cs ad u) H → va_D (gA kC ad sz) (gw kC cs ad u) → va_S (gA kC ad sz) s.heap H locs → lv_has ls 3 [(2, .int (nI i)), (0, .ref (ad z)), (1, .ref (ad z2))] → W pg l e ({ frames := 2, cells := 0, slots := 0, locals := 39 }) s m args below meth c H locs 0 0 (MQ below (va_Qv (fun u => u = m_X0_becomeLike I z z2) (wat kC cs D ad (gA kC ad sz)) (gA kC ad sz)) args s 0 0 (gA kC ad sz)) (F0 m 13 ls []) from KL13 _ 0 u1 _ _ _ (by omega) hu1 (Nat.lt_succ_self _) hP hD hS (lv_sub hl [0, 1, 2] rfl)
  intro fuel13
  induction fuel13 with
  | zero => intro _ _ _ _ _ _ _ hm; exact absurd hm (Nat.not_lt_zero _)
  | succ fuel13 ih13 =>
    intro i u H locs ls hi hu hm13 hP hD hS hl
    refine lv_iload_n hx hb dX0_becomeLike_13 rfl (lv_at hl 0 rfl) ?_
    refine lv_bipush (v := nI 8) hx hb dX0_becomeLike_14 (by decide) ?_
    refine lv_icmp_ge (tgt := 40) hx hb dX0_becomeLike_16 (by decide) (fun c_2 => ?_) (fun c_2 => ?_)
    · skip
      have nc_2 : 8 ≤ i := (nI_leI (a := 8) (b := i) (by omega) (by omega)).mp c_2
      refine lv_aload_n hx hb dX0_becomeLike_40 rfl (lv_at hl 1 rfl) ?_
      refine lv_aload_n hx hb dX0_becomeLike_41 rfl (lv_at hl 2 rfl) ?_
      refine g_get (κ := 2) (ci := 0) (v := .int (u z2 3)) (C := RX0) (T := TX0) (N := 7) hx hb hts hown hK hP (k := z2) hz2 (by decide) rfl (fun _ h => List.mem_cons_of_mem _ (List.mem_append_left _ (List.mem_append_left _ (List.mem_append_right _ h)))) rfl 3 (by decide) (hts _ (List.mem_of_getElem? (i := 3) rfl)) (fun _ h9 => h9) rfl dX0_becomeLike_42 ?_
      refine g_put (κ := 2) (ci := 0) (v := u z2 3) (ty := .int) (C := RX0) (T := TX0) (N := 7) hx hb hts hown hK hP hD hS (k := z) hz (by decide) rfl (fun _ h => List.mem_cons_of_mem _ (List.mem_append_left _ (List.mem_append_left _ (List.mem_append_right _ h)))) tyX0 tyX0_ok nmX0 rfl 3 (by decide) (hts _ (List.mem_of_getElem? (i := 3) rfl)) (fun _ h9 => h9) rfl (by decide +kernel) rfl rfl (Nat.le_of_ble_eq_true rfl) rfl dX0_becomeLike_45 (fun u3 H locs hu3 hP hD hS => ?_)
      refine lv_aload_n hx hb dX0_becomeLike_48 rfl (lv_at hl 1 rfl) ?_
      refine lv_aload_n hx hb dX0_becomeLike_49 rfl (lv_at hl 2 rfl) ?_
      refine g_get (κ := 2) (ci := 0) (v := .int (u3 z2 4)) (C := RX0) (T := TX0) (N := 7) hx hb hts hown hK hP (k := z2) hz2 (by decide) rfl (fun _ h => List.mem_cons_of_mem _ (List.mem_append_left _ (List.mem_append_left _ (List.mem_append_right _ h)))) rfl 4 (by decide) (hts _ (List.mem_of_getElem? (i := 4) rfl)) (fun _ h9 => h9) rfl dX0_becomeLike_50 ?_
      refine g_put (κ := 2) (ci := 0) (v := u3 z2 4) (ty := .int) (C := RX0) (T := TX0) (N := 7) hx hb hts hown hK hP hD hS (k := z) hz (by decide) rfl (fun _ h => List.mem_cons_of_mem _ (List.mem_append_left _ (List.mem_append_left _ (List.mem_append_right _ h)))) tyX0 tyX0_ok nmX0 rfl 4 (by decide) (hts _ (List.mem_of_getElem? (i := 4) rfl)) (fun _ h9 => h9) rfl (by decide +kernel) rfl rfl (Nat.le_of_ble_eq_true rfl) rfl dX0_becomeLike_53 (fun u4 H locs hu4 hP hD hS => ?_)
      refine lv_aload_n hx hb dX0_becomeLike_56 rfl (lv_at hl 1 rfl) ?_
      refine lv_aload_n hx hb dX0_becomeLike_57 rfl (lv_at hl 2 rfl) ?_
      refine g_get (κ := 2) (ci := 0) (v := .int (u4 z2 5)) (C := RX0) (T := TX0) (N := 7) hx hb hts hown hK hP (k := z2) hz2 (by decide) rfl (fun _ h => List.mem_cons_of_mem _ (List.mem_append_left _ (List.mem_append_left _ (List.mem_append_right _ h)))) rfl 5 (by decide) (hts _ (List.mem_of_getElem? (i := 5) rfl)) (fun _ h9 => h9) rfl dX0_becomeLike_58 ?_
      refine g_put (κ := 2) (ci := 0) (v := u4 z2 5) (ty := .int) (C := RX0) (T := TX0) (N := 7) hx hb hts hown hK hP hD hS (k := z) hz (by decide) rfl (fun _ h => List.mem_cons_of_mem _ (List.mem_append_left _ (List.mem_append_left _ (List.mem_append_right _ h)))) tyX0 tyX0_ok nmX0 rfl 5 (by decide) (hts _ (List.mem_of_getElem? (i := 5) rfl)) (fun _ h9 => h9) rfl (by decide +kernel) rfl rfl (Nat.le_of_ble_eq_true rfl) rfl dX0_becomeLike_61 (fun u5 H locs hu5 hP hD hS => ?_)
      refine lv_aload_n hx hb dX0_becomeLike_64 rfl (lv_at hl 1 rfl) ?_
      refine lv_aload_n hx hb dX0_becomeLike_65 rfl (lv_at hl 2 rfl) ?_
      refine g_get (κ := 2) (ci := 0) (v := .int (u5 z2 6)) (C := RX0) (T := TX0) (N := 7) hx hb hts hown hK hP (k := z2) hz2 (by decide) rfl (fun _ h => List.mem_cons_of_mem _ (List.mem_append_left _ (List.mem_append_left _ (List.mem_append_right _ h)))) rfl 6 (by decide) (hts _ (List.mem_of_getElem? (i := 6) rfl)) (fun _ h9 => h9) rfl dX0_becomeLike_66 ?_
      refine g_put (κ := 2) (ci := 0) (v := u5 z2 6) (ty := .int) (C := RX0) (T := TX0) (N := 7) hx hb hts hown hK hP hD hS (k := z) hz (by decide) rfl (fun _ h => List.mem_cons_of_mem _ (List.mem_append_left _ (List.mem_append_left _ (List.mem_append_right _ h)))) tyX0 tyX0_ok nmX0 rfl 6 (by decide) (hts _ (List.mem_of_getElem? (i := 6) rfl)) (fun _ h9 => h9) rfl (by decide +kernel) rfl rfl (Nat.le_of_ble_eq_true rfl) rfl dX0_becomeLike_69 (fun u6 H locs hu6 hP hD hS => ?_)
      exact g_vret hx hb hr hlocks hP hD hS (by rw [hu6, hu5, hu4, hu3, hu, show i = 8 from by omega]; rfl) dX0_becomeLike_72
    · skip
      have nc_2 : ¬ 8 ≤ i := fun z9_ => c_2 ((nI_leI (a := 8) (b := i) (by omega) (by omega)).mpr z9_)
      refine lv_aload_n hx hb dX0_becomeLike_19 rfl (lv_at hl 1 rfl) ?_
      refine g_get (κ := 2) (ci := 0) (v := .ref (ad (z + 8))) (C := RX0) (T := TX0) (N := 7) hx hb hts hown hK hP (k := z) hz (by decide) rfl (fun _ h => List.mem_cons_of_mem _ (List.mem_append_left _ (List.mem_append_left _ (List.mem_append_right _ h)))) rfl 2 (by decide) (hts _ (List.mem_of_getElem? (i := 2) rfl)) (fun _ h9 => h9) rfl dX0_becomeLike_20 ?_
      refine lv_iload_n hx hb dX0_becomeLike_23 rfl (lv_at hl 0 rfl) ?_
      refine g_crew (i := i) hx hb hK hP (k := (z + 8)) (kd_2_2 hz) (by omega) dX0_becomeLike_24 ?_
      refine lv_aload_n hx hb dX0_becomeLike_25 rfl (lv_at hl 2 rfl) ?_
      refine g_get (κ := 2) (ci := 0) (v := .ref (ad (z2 + 8))) (C := RX0) (T := TX0) (N := 7) hx hb hts hown hK hP (k := z2) hz2 (by decide) rfl (fun _ h => List.mem_cons_of_mem _ (List.mem_append_left _ (List.mem_append_left _ (List.mem_append_right _ h)))) rfl 2 (by decide) (hts _ (List.mem_of_getElem? (i := 2) rfl)) (fun _ h9 => h9) rfl dX0_becomeLike_26 ?_
      refine lv_iload_n hx hb dX0_becomeLike_29 rfl (lv_at hl 0 rfl) ?_
      refine g_crew (i := i) hx hb hK hP (k := (z2 + 8)) (kd_2_2 hz2) (by omega) dX0_becomeLike_30 ?_
      refine g_callM (M := m_X4_becomeLike u (z + 8 + (1 + i)) (z2 + 8 + (1 + i))) hD hS hA (va_runV (As := [.ref (ad (z2 + 8 + (1 + i)))]) (rest := []) ⟨hx, hb, hml, hown, hts⟩ (c_X4_becomeLike l D cs ad u H.size (z + 8 + (1 + i)) (kd_crew (kd_2_2 hz) (show i < 8 from by omega)) (z2 + 8 + (1 + i)) (kd_crew (kd_2_2 hz2) (show i < 8 from by omega)) (by omega) (by rw [hu, bL_o (by omega) i (by omega)]; exact hbu i (by omega))) (cwV 1 hts gX0_becomeLike_X4_becomeLike rfl rfl rfl (by decide +kernel) ⟨Nat.le_of_ble_eq_true rfl, Nat.le_of_ble_eq_true rfl⟩) (g_preV hP hD hK hN (k := (z + 8 + (1 + i))) (kd_crew (kd_2_2 hz) (show i < 8 from by omega)) (by decide) rfl rfl rfl rfl) rfl rfl hl.1 rfl (lv_room (Nat.le_of_ble_eq_true rfl)) dX0_becomeLike_31 ⟨Nat.le_of_ble_eq_true rfl, Nat.le_of_ble_eq_true rfl⟩) (fun u7 H locs hu7 hP hD hS => ?_)
      refine lv_iinc (v := nI (i + 1)) (lv' := [(2, .int (nI (i + 1))), (0, .ref (ad z)), (1, .ref (ad z2))]) hx hb dX0_becomeLike_34 hl (k := 0) rfl (nI_1 i) (by decide) rfl (fun ls hl => ?_)
      refine lv_goto (tgt := 13) hx hb dX0_becomeLike_37 (by decide) ?_
      exact ih13 (i + 1) u7 _ _ _ (by omega) (by rw [hu7, hu]; rfl) (by omega) hP hD hS (lv_sub hl [0, 1, 2] rfl)

def mbr (N : Nat) (a : Int32) : Option Nat := if a < 0 then none else if nI N ≤ a then none else some a.toNatClampNeg
theorem mbr_i {N j : Nat} (hj : j < N) (hN : N ≤ 8) : mbr N (nI j) = some j := by
  rw [mbr, if_neg (nI_pos (by omega)), if_neg (fun y => absurd ((nI_leI (by omega) (by omega)).mp y) (by omega)), nI_clamp (by omega)]
theorem mbr_lt {N j : Nat} {a : Int32} (hN : N ≤ 8) (h : mbr N a = some j) : j < N ∧ a = nI j := by
  rw [mbr] at h
  by_cases h1 : a < 0
  · rw [if_pos h1] at h; cases h
  · by_cases h2 : nI N ≤ a
    · rw [if_neg h1, if_pos h2] at h; cases h
    · rw [if_neg h1, if_neg h2] at h
      obtain ⟨i, hi, e⟩ := nI_of h1
      subst e
      rw [nI_clamp hi] at h
      cases h
      exact ⟨Nat.lt_of_not_le fun y => h2 (nI_le y hi), rfl⟩
theorem mem_j {N : Nat} {a : Int32} (h1 : ¬ a < 0) (h2 : ¬ nI N ≤ a) : ∃ j, j < N ∧ a = nI j := by
  obtain ⟨i, hi, e⟩ := nI_of h1
  subst e
  exact ⟨i, Nat.lt_of_not_le fun y => h2 (nI_le y hi), rfl⟩
theorem near_bo (a b : Int32) : f_X5_isNear a b = 0 ∨ f_X5_isNear a b = 1 := bi_bo _

set_option maxHeartbeats 4000000 in
set_option maxRecDepth 100000 in
theorem c_X0_member (l : Launch) (D : va_G) (cs : Nat → ClassId) (ad : Nat → Nat) (I : Mm) (sz : Nat) (z : Nat) (hz : kC.getD z 0 = 2) (a : Int32) (N : Nat) (hN3 : I z 3 = nI N) (hN8 : N ≤ 8) : MetQ l yX0_member wsX0_member ({ frames := 0, cells := 0, slots := 0, locals := 0 }) kC cs D ad I sz [.ref (ad z), .int a] (fun r u => u = I ∧ r = (mbr N a).map (fun j => ad (z + 8 + (1 + j)))) 0 0 := by
  refine g_met (cc := cX0_member) (maxL := 2) (ret := (some (.object "SnowMaze$Tunneller"))) (by decide) rfl (Nat.le_of_ble_eq_true rfl) ?_
  intro pg e s m args below meth c ls hx hb hr hml hts hown hlocks hsz hP hD hK hN hS hA hl
  have hown : s.vm.findClass RX0 = some m.cls := hown
  have hl : lv_has ls 2 [(0, .ref (ad z)), (1, .int a)] := hl
  refine lv_iload_n hx hb dX0_member_0 rfl (lv_at hl 1 rfl) ?_
  refine lv_if_lt (tgt := 27) hx hb dX0_member_1 (by decide) (fun c_1 => ?_) (fun c_1 => ?_)
  · skip
    refine lv_null hx hb dX0_member_27 ?_
    exact g_qret (r := none) hx hb hr hlocks hP hD hS ⟨rfl, by rw [mbr, if_pos c_1]; rfl⟩ dX0_member_28
  · skip
    refine lv_iload_n hx hb dX0_member_4 rfl (lv_at hl 1 rfl) ?_
    refine lv_aload_n hx hb dX0_member_5 rfl (lv_at hl 0 rfl) ?_
    refine g_get (κ := 2) (ci := 0) (v := .int (I z 3)) (C := RX0) (T := TX0) (N := 7) hx hb hts hown hK hP (k := z) hz (by decide) rfl (fun _ h => List.mem_cons_of_mem _ (List.mem_append_right _ h)) rfl 3 (by decide) (hts _ (List.mem_of_getElem? (i := 1) rfl)) (fun _ h9 => h9) rfl dX0_member_6 ?_
    rw [show I z 3 = nI N from hN3]
    refine lv_icmp_ge (tgt := 27) hx hb dX0_member_9 (by decide) (fun c_2 => ?_) (fun c_2 => ?_)
    · skip
      refine lv_null hx hb dX0_member_27 ?_
      exact g_qret (r := none) hx hb hr hlocks hP hD hS ⟨rfl, by rw [mbr, if_neg c_1, if_pos c_2]; rfl⟩ dX0_member_28
    · skip
      obtain ⟨j, hj, ej⟩ := mem_j c_1 c_2
      refine lv_iload_n hx hb dX0_member_12 rfl (lv_at hl 1 rfl) ?_
      refine lv_bipush (v := nI 8) hx hb dX0_member_13 (by decide) ?_
      refine lv_icmp_ge (tgt := 27) hx hb dX0_member_15 (by decide) (fun c_3 => ?_) (fun c_3 => ?_)
      · skip
        exact absurd ((nI_leI (a := 8) (b := j) (by omega) (by omega)).mp (by rw [← ej]; exact c_3)) (by omega)
      · skip
        refine lv_aload_n hx hb dX0_member_18 rfl (lv_at hl 0 rfl) ?_
        refine g_get (κ := 2) (ci := 0) (v := .ref (ad (z + 8))) (C := RX0) (T := TX0) (N := 7) hx hb hts hown hK hP (k := z) hz (by decide) rfl (fun _ h => List.mem_cons_of_mem _ (List.mem_append_right _ h)) rfl 2 (by decide) (hts _ (List.mem_of_getElem? (i := 2) rfl)) (fun _ h9 => h9) rfl dX0_member_19 ?_
        refine lv_iload_n hx hb dX0_member_22 rfl (lv_at hl 1 rfl) ?_
        refine lv_topi (fun y9 ey9 => ?_)
        obtain rfl := ey9.trans ej
        refine g_crew (i := j) hx hb hK hP (k := (z + 8)) (kd_2_2 hz) (by omega) dX0_member_23 ?_
        refine lv_goto (tgt := 28) hx hb dX0_member_24 (by decide) ?_
        exact g_qret (r := (some (ad (z + 8 + (1 + j))))) hx hb hr hlocks hP hD hS ⟨rfl, by rw [ej, mbr_i hj hN8]; rfl⟩ dX0_member_28

def f_X0_areTogether (I : Mm) (z a b : Nat) : Int32 := if I (z + 8 + (1 + a)) 4 = 0 then (if I (z + 8 + (1 + b)) 4 = 0 then f_X5_isNear (I (z + 8 + (1 + a)) 0) (I (z + 8 + (1 + b)) 0) else nI 0) else nI 0

set_option maxHeartbeats 4000000 in
set_option maxRecDepth 100000 in
theorem c_X0_areTogether (l : Launch) (D : va_G) (cs : Nat → ClassId) (ad : Nat → Nat) (I : Mm) (sz : Nat) (z : Nat) (hz : kC.getD z 0 = 2) (a : Nat) (b : Nat) (N : Nat) (hN3 : I z 3 = nI N) (hN8 : N ≤ 8) (ha : a < N) (hb_ : b < N) : MetI l yX0_areTogether wsX0_areTogether ({ frames := 2, cells := 0, slots := 0, locals := 46 }) kC cs D ad I sz [.ref (ad z), .int (nI a), .int (nI b)] (fun r u => r = f_X0_areTogether I z a b ∧ u = I) 0 0 := by
  refine g_met (cc := cX0_areTogether) (maxL := 5) (ret := (some .boolean)) (by decide) rfl (Nat.le_of_ble_eq_true rfl) ?_
  intro pg e s m args below meth c ls hx hb hr hml hts hown hlocks hsz hP hD hK hN hS hA hl
  have hown : s.vm.findClass RX0 = some m.cls := hown
  have hl : lv_has ls 5 [(0, .ref (ad z)), (1, .int (nI a)), (2, .int (nI b))] := hl
  refine lv_aload_n hx hb dX0_areTogether_0 rfl (lv_at hl 0 rfl) ?_
  refine lv_iload_n hx hb dX0_areTogether_1 rfl (lv_at hl 1 rfl) ?_
  refine g_callq hD hS hA (va_runV (As := [.int (nI a)]) (rest := []) ⟨hx, hb, hml, hown, hts⟩ (c_X0_member l D cs ad I s.heap.size z hz (nI a) N hN3 hN8) (cwV 1 hts gX0_areTogether_X0_member rfl rfl rfl (by decide +kernel) ⟨Nat.le_of_ble_eq_true rfl, Nat.le_of_ble_eq_true rfl⟩) (g_preV hP hD hK hN (k := z) hz (by decide) rfl rfl rfl rfl) rfl rfl hl.1 rfl (lv_room (Nat.le_of_ble_eq_true rfl)) dX0_areTogether_2 ⟨Nat.le_of_ble_eq_true rfl, Nat.le_of_ble_eq_true rfl⟩) (fun rq1 u1 H locs hq1 hP hD hS => ?_)
  obtain ⟨hv1, hr1⟩ := hq1
  rw [hv1] at hP hD
  rw [hr1]
  rw [mbr_i (show a < N from by omega) hN8]
  refine lv_astore_n (lv' := [(3, .ref (ad (z + 8 + (1 + a)))), (0, .ref (ad z)), (1, .int (nI a)), (2, .int (nI b))]) hx hb dX0_areTogether_5 rfl hl (by decide) rfl (fun ls hl => ?_)
  refine lv_aload_n hx hb dX0_areTogether_6 rfl (lv_at hl 1 rfl) ?_
  refine lv_iload_n hx hb dX0_areTogether_7 rfl (lv_at hl 3 rfl) ?_
  refine g_callq hD hS hA (va_runV (As := [.int (nI b)]) (rest := []) ⟨hx, hb, hml, hown, hts⟩ (c_X0_member l D cs ad I H.size z hz (nI b) N hN3 hN8) (cwV 1 hts gX0_areTogether_X0_member rfl rfl rfl (by decide +kernel) ⟨Nat.le_of_ble_eq_true rfl, Nat.le_of_ble_eq_true rfl⟩) (g_preV hP hD hK hN (k := z) hz (by decide) rfl rfl rfl rfl) rfl rfl hl.1 rfl (lv_room (Nat.le_of_ble_eq_true rfl)) dX0_areTogether_8 ⟨Nat.le_of_ble_eq_true rfl, Nat.le_of_ble_eq_true rfl⟩) (fun rq2 u2 H locs hq2 hP hD hS => ?_)
  obtain ⟨hv2, hr2⟩ := hq2
  rw [hv2] at hP hD
  rw [hr2]
  rw [mbr_i (show b < N from by omega) hN8]
  refine lv_astore (lv' := [(4, .ref (ad (z + 8 + (1 + b)))), (3, .ref (ad (z + 8 + (1 + a)))), (0, .ref (ad z)), (1, .int (nI a)), (2, .int (nI b))]) hx hb dX0_areTogether_11 hl (by decide) rfl (fun ls hl => ?_)
  refine lv_aload_n hx hb dX0_areTogether_13 rfl (lv_at hl 1 rfl) ?_
  refine lv_ifnull hx hb dX0_areTogether_14 ?_
  refine lv_aload hx hb dX0_areTogether_17 (lv_at hl 0 rfl) ?_
  refine lv_ifnull hx hb dX0_areTogether_19 ?_
  refine lv_aload_n hx hb dX0_areTogether_22 rfl (lv_at hl 1 rfl) ?_
  refine g_getN (κ := 6) (ci := 4) (v := .int (I (z + 8 + (1 + a)) 4)) (C := RX4) (T := TX4) (N := 8) hx hb hts hown hK hP (k := (z + 8 + (1 + a))) (kd_crew (kd_2_2 hz) (show a < 8 from by omega)) (by decide) rfl (fun _ h => List.mem_cons_of_mem _ (List.mem_append_left _ (List.mem_append_right _ h))) rfl 4 (by decide) (nwu10 hN) (fun _ h9 => h9) rfl dX0_areTogether_23 ?_
  refine lv_if_ne (tgt := 37) hx hb dX0_areTogether_26 (by decide) (fun c_3 => ?_) (fun c_3 => ?_)
  · skip
    refine lv_iconst (v := nI 0) hx hb dX0_areTogether_37 (by decide) ?_
    exact g_iret (v := nI 0) hx hb hr hlocks rfl hP hD hS ⟨by simp only [f_X0_areTogether]; rw [if_neg c_3], rfl⟩ dX0_areTogether_38
  · skip
    refine lv_aload hx hb dX0_areTogether_29 (lv_at hl 0 rfl) ?_
    refine g_getN (κ := 6) (ci := 4) (v := .int (I (z + 8 + (1 + b)) 4)) (C := RX4) (T := TX4) (N := 8) hx hb hts hown hK hP (k := (z + 8 + (1 + b))) (kd_crew (kd_2_2 hz) (show b < 8 from by omega)) (by decide) rfl (fun _ h => List.mem_cons_of_mem _ (List.mem_append_left _ (List.mem_append_right _ h))) rfl 4 (by decide) (nwu10 hN) (fun _ h9 => h9) rfl dX0_areTogether_31 ?_
    refine lv_if_eq (tgt := 39) hx hb dX0_areTogether_34 (by decide) (fun c_4 => ?_) (fun c_4 => ?_)
    · skip
      refine lv_aload_n hx hb dX0_areTogether_39 rfl (lv_at hl 1 rfl) ?_
      refine g_getN (κ := 6) (ci := 4) (v := .int (I (z + 8 + (1 + a)) 0)) (C := RX4) (T := TX4) (N := 8) hx hb hts hown hK hP (k := (z + 8 + (1 + a))) (kd_crew (kd_2_2 hz) (show a < 8 from by omega)) (by decide) rfl (fun _ h => List.mem_cons_of_mem _ (List.mem_append_left _ (List.mem_append_right _ h))) rfl 0 (by decide) (nwu2 hN) (fun _ h9 => h9) rfl dX0_areTogether_40 ?_
      refine lv_aload hx hb dX0_areTogether_43 (lv_at hl 0 rfl) ?_
      refine g_getN (κ := 6) (ci := 4) (v := .int (I (z + 8 + (1 + b)) 0)) (C := RX4) (T := TX4) (N := 8) hx hb hts hown hK hP (k := (z + 8 + (1 + b))) (kd_crew (kd_2_2 hz) (show b < 8 from by omega)) (by decide) rfl (fun _ h => List.mem_cons_of_mem _ (List.mem_append_left _ (List.mem_append_right _ h))) rfl 0 (by decide) (nwu2 hN) (fun _ h9 => h9) rfl dX0_areTogether_45 ?_
      refine g_callF (F := f_X5_isNear (I (z + 8 + (1 + a)) 0) (I (z + 8 + (1 + b)) 0)) hD hS hA (va_runSN (As := [.int (I (z + 8 + (1 + a)) 0), .int (I (z + 8 + (1 + b)) 0)]) (rest := []) ⟨hx, hb, hml, hown, hts⟩ (c_X5_isNear l D cs ad I H.size (I (z + 8 + (1 + a)) 0) (I (z + 8 + (1 + b)) 0)) ⟨va_cnB 2 hts gX0_areTogether_X5_isNear_n136 rfl rfl rfl (nwv24 hN) (hts _ (List.mem_of_getElem? (i := 9) rfl)) (by decide +kernel) ⟨Nat.le_of_ble_eq_true rfl, Nat.le_of_ble_eq_true rfl⟩, (hts _ (List.mem_of_getElem? (i := 8) rfl)), trivial⟩ (g_preS hP hD hK hN) rfl rfl hl.1 rfl (lv_room (Nat.le_of_ble_eq_true rfl)) dX0_areTogether_48 ⟨Nat.le_of_ble_eq_true rfl, Nat.le_of_ble_eq_true rfl⟩) (fun H locs hP hD hS => ?_)
      exact g_iret (v := f_X5_isNear (I (z + 8 + (1 + a)) 0) (I (z + 8 + (1 + b)) 0)) hx hb hr hlocks (bo_nar (near_bo _ _)) hP hD hS ⟨by simp only [f_X0_areTogether]; rw [if_pos c_3, if_pos c_4], rfl⟩ dX0_areTogether_51
    · skip
      refine lv_iconst (v := nI 0) hx hb dX0_areTogether_37 (by decide) ?_
      exact g_iret (v := nI 0) hx hb hr hlocks rfl hP hD hS ⟨by simp only [f_X0_areTogether]; rw [if_pos c_3, if_neg c_4], rfl⟩ dX0_areTogether_38
