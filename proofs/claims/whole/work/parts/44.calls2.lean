section PUB2
variable {z k N : Nat} {J I v : Mm}
theorem Rl.more (h : Rl z J k I N) (x : Int32) (h5 : J (z + 8 + (1 + N)) 5 = 0) : Rl z (wr J z 3 x) k (wr I k 6 (nI (N + 1))) (N + 1) := by
  obtain ⟨a, b, c, d, e⟩ := h
  refine ⟨wr_ss _ _ _ _, fun j hj q hq => by rw [wr_n _ _ _ (by omega), wr_n _ _ _ (by omega)]; exact b j hj q hq, fun i hi => by rw [wr_n _ _ _ (by omega), wr_n _ _ _ (by omega), wr_n _ _ _ (by omega)]; exact c i hi, ?_, ?_⟩
  · rw [wr_n _ _ _ (by omega), wr_sn _ _ _ (by decide), wr_sn _ _ _ (by decide), wr_sn _ _ _ (by decide)]; exact d
  · rw [wr_n _ _ _ (by omega), e]
    simp only [f_X0_openedByCrew, sm]
    rw [wr_n _ _ _ (show z + 8 + (1 + N) ≠ z from by omega), h5, Int32.add_zero]
    exact sm_cg N (fun i _ => by rw [wr_n _ _ _ (by omega)])
def thZ_come (J : Mm) (z N : Nat) (a b c0 d : Int32) : Nat := if th_X5_placeOf a b = 0 then (if c0 < 0 then 2 else (if c0 ≤ nI 20 then (if d < 0 then 2 else (if d ≤ nI 9 then (if f_X3_sortAt J (z + 1) (nI (pl a b)) = nI 10 then 3 else (if f_X0_buriedAt J z (nI (pl a b)) N ≤ 0 then (if nI N < nI 8 then 0 else 3) else 3)) else 2)) else 2)) else th_X5_placeOf a b
def mZ_come (J : Mm) (z N : Nat) (a b c0 d : Int32) : Mm := if thZ_come J z N a b c0 d = 0 then m_X0_welcome J z (nI (pl a b)) c0 d N else J
def nZ_come (J : Mm) (z N : Nat) (a b c0 d : Int32) : Nat := if thZ_come J z N a b c0 d = 0 then N + 1 else N
def thZ_order (J : Mm) (z N : Nat) (a b c0 : Int32) : Nat := if th_X5_member 0 a N = 0 then (if b < 0 then 2 else (if b ≤ nI 6 then (if c0 < nI 1 then 2 else (if c0 ≤ nI 9 then (if nI ((J (z + 8 + (1 + a.toNatClampNeg)) 7).toNatClampNeg + c0.toNatClampNeg) ≤ nI 24 then 0 else 3) else 2)) else 2)) else th_X5_member 0 a N
def mZ_order (J : Mm) (z N : Nat) (a b c0 : Int32) : Mm := if thZ_order J z N a b c0 = 0 then addO J (z + 8 + (1 + a.toNatClampNeg)) (J (z + 8 + (1 + a.toNatClampNeg)) 7).toNatClampNeg b c0.toNatClampNeg else J
def thZ_pass (a : Int32) : Nat := if th_X5_requireTicks a = 0 then 0 else 1
noncomputable def mZ_pass (J : Mm) (z N : Nat) (a : Int32) : Mm := if thZ_pass a = 0 then tkI J z N a.toNatClampNeg else J
theorem tick_1 {a : Int32} (h : ¬ f_X6_isIn a (nI 1) (nI 100) = 0) : th_X5_requireTicks a = 0 := rng_1 h
theorem tick_0 {a : Int32} (h : f_X6_isIn a (nI 1) (nI 100) = 0) : th_X5_requireTicks a = 2 := rng_0 h
theorem pass_1 {a : Int32} (h : ¬ f_X6_isIn a (nI 1) (nI 100) = 0) : thZ_pass a = 0 := if_pos (tick_1 h)
theorem pass_0 {a : Int32} (h : f_X6_isIn a (nI 1) (nI 100) = 0) : thZ_pass a = 1 := if_neg (by rw [tick_0 h]; decide)
theorem in_1n {a : Int32} {n : Nat} (hn : n < 2 ^ 31) (h : ¬ f_X6_isIn a (nI 1) (nI n) = 0) : a = nI a.toNatClampNeg ∧ 1 ≤ a.toNatClampNeg ∧ a.toNatClampNeg ≤ n := i_ge1 hn (in_1 h).1 (in_1 h).2
/-- what a call of the model leaves, its answer by a property -/
def PoP (z k : Nat) (J' : Mm) (N' t : Nat) (P : Int32 → Prop) (r : Int32) (u : Mm) : Prop := Rl z J' k u N' ∧ u k 0 = nI t ∧ (t = 0 → P r)
theorem PoP.fail {t n : Nat} {P : Int32 → Prop} {r : Int32} {u : Mm} (h : Rl z J k I N) (e : u = m_X6_fail I k (nI n)) (ht : t = n) (h0 : n ≠ 0) : PoP z k J N t P r u := by
  refine ⟨?_, ?_, fun y => absurd (ht.symm.trans y) h0⟩
  · rw [e]; exact h.th _
  · rw [e, ht]; exact wr_ss _ _ _ _
theorem PoP.ok {t : Nat} {P : Int32 → Prop} {r : Int32} {u : Mm} (h : Rl z J k u N) (h0 : u k 0 = nI 0) (ht : t = 0) (e : P r) : PoP z k J N t P r u := ⟨h, by rw [ht]; exact h0, fun _ => e⟩
def thZ_two (a b c0 d : Int32) : Nat := if th_X5_placeOf a b = 0 then (if th_X5_placeOf c0 d = 0 then 0 else th_X5_placeOf c0 d) else th_X5_placeOf a b
theorem two_1 {a b c0 d : Int32} (h : ¬ f_X6_isCell a b = 0) (h2 : ¬ f_X6_isCell c0 d = 0) : thZ_two a b c0 d = 0 := by rw [thZ_two, if_pos (cell_1 h), if_pos (cell_1 h2)]
theorem two_0 {a b c0 d : Int32} (h : f_X6_isCell a b = 0 ∨ (¬ f_X6_isCell a b = 0 ∧ f_X6_isCell c0 d = 0)) : thZ_two a b c0 d = 1 := by
  rcases h with h | ⟨h, h2⟩
  · rw [thZ_two, cell_0 h, if_neg (by decide)]
  · rw [thZ_two, if_pos (cell_1 h), cell_0 h2, if_neg (by decide)]
end PUB2

set_option maxHeartbeats 4000000 in
set_option maxRecDepth 100000 in
theorem c_X6_come (l : Launch) (D : va_G) (cs : Nat → ClassId) (ad : Nat → Nat) (I : Mm) (sz : Nat) (k : Nat) (hk : kM.getD k 0 = 10) (a : Int32) (b : Int32) (c0 : Int32) (d : Int32) (z : Nat) (J : Mm) (N : Nat) (hRl : Rl z J k I N) (hIV : IV J z N) : MetI l yX6_come wsX6_come ({ frames := 3, cells := 0, slots := 0, locals := 67 }) kM cs D ad I sz [.ref (ad k), .int a, .int b, .int c0, .int d] (fun r u => Po z k (mZ_come J z N a b c0 d) (nZ_come J z N a b c0 d) (thZ_come J z N a b c0 d) (nI N) r u) 0 0 := by
  refine g_met (cc := cX6_come) (maxL := 6) (ret := (some .int)) (by decide) rfl (Nat.le_of_ble_eq_true rfl) ?_
  intro pg e s m args below meth c ls hx hb hr hml hts hown hlocks hsz hP hD hK hN hS hA hl
  have hown : s.vm.findClass RX6 = some m.cls := hown
  have hl : lv_has ls 6 [(0, .ref (ad k)), (1, .int a), (2, .int b), (3, .int c0), (4, .int d)] := hl
  have hN8 := hIV.1.2.1
  refine lv_aload_n hx hb dX6_come_0 rfl (lv_at hl 0 rfl) ?_
  refine lv_iconst (v := nI 0) hx hb dX6_come_1 (by decide) ?_
  refine g_put (κ := 10) (ci := 6) (v := nI 0) (ty := .int) (C := RX6) (T := TX6) (N := 8) hx hb hts hown hK hP hD hS (k := k) hk (by decide) rfl (fun _ h => List.mem_cons_of_mem _ (List.mem_append_right _ h)) tyX6 tyX6_ok nmX6 rfl 0 (by decide) (hts _ (List.mem_of_getElem? (i := 1) rfl)) (fun _ h9 => h9) rfl (by decide +kernel) rfl rfl (Nat.le_of_ble_eq_true rfl) rfl dX6_come_2 (fun u1 H locs hu1 hP hD hS => ?_)
  have hR1 : Rl z J k u1 N := by rw [hu1]; exact hRl.th _
  have hT1 : u1 k 0 = nI 0 := by rw [hu1]; exact wr_ss _ _ _ _
  skip
  refine lv_iload_n hx hb dX6_come_5 rfl (lv_at hl 1 rfl) ?_
  refine lv_iload_n hx hb dX6_come_6 rfl (lv_at hl 2 rfl) ?_
  refine g_callF (F := f_X6_isCell a b) hD hS hA (va_runS (As := [.int a, .int b]) (rest := []) ⟨hx, hb, hml, hown, hts⟩ (c_X6_isCell l D cs ad u1 H.size a b) (va_cwS 2 hts gX6_come_X6_isCell rfl rfl rfl (by decide +kernel) ⟨Nat.le_of_ble_eq_true rfl, Nat.le_of_ble_eq_true rfl⟩) (g_preS hP hD hK hN) rfl rfl hl.1 rfl (lv_room (Nat.le_of_ble_eq_true rfl)) dX6_come_7 ⟨Nat.le_of_ble_eq_true rfl, Nat.le_of_ble_eq_true rfl⟩) (fun H locs hP hD hS => ?_)
  refine lv_if_ne (tgt := 19) hx hb dX6_come_10 (by decide) (fun c_2 => ?_) (fun c_2 => ?_)
  · skip
    refine lv_iload_n hx hb dX6_come_19 rfl (lv_at hl 3 rfl) ?_
    refine lv_iconst (v := nI 0) hx hb dX6_come_20 (by decide) ?_
    refine lv_bipush (v := nI 20) hx hb dX6_come_21 (by decide) ?_
    refine g_callF (F := f_X6_isIn c0 (nI 0) (nI 20)) hD hS hA (va_runS (As := [.int c0, .int (nI 0), .int (nI 20)]) (rest := []) ⟨hx, hb, hml, hown, hts⟩ (c_X6_isIn l D cs ad u1 H.size c0 (nI 0) (nI 20)) (va_cwS 3 hts gX6_come_X6_isIn rfl rfl rfl (by decide +kernel) ⟨Nat.le_of_ble_eq_true rfl, Nat.le_of_ble_eq_true rfl⟩) (g_preS hP hD hK hN) rfl rfl hl.1 rfl (lv_room (Nat.le_of_ble_eq_true rfl)) dX6_come_23 ⟨Nat.le_of_ble_eq_true rfl, Nat.le_of_ble_eq_true rfl⟩) (fun H locs hP hD hS => ?_)
    refine lv_if_eq (tgt := 40) hx hb dX6_come_26 (by decide) (fun c_3 => ?_) (fun c_3 => ?_)
    · skip
      refine lv_aload_n hx hb dX6_come_40 rfl (lv_at hl 0 rfl) ?_
      refine lv_iconst (v := nI 2) hx hb dX6_come_41 (by decide) ?_
      refine g_callFM (F := f_X6_fail u1 k (nI 2)) (M := m_X6_fail u1 k (nI 2)) hD hS hA (va_runV (As := [.int (nI 2)]) (rest := []) ⟨hx, hb, hml, hown, hts⟩ (c_X6_fail l D cs ad u1 H.size k hk (nI 2)) (cwV 1 hts gX6_come_X6_fail rfl rfl rfl (by decide +kernel) ⟨Nat.le_of_ble_eq_true rfl, Nat.le_of_ble_eq_true rfl⟩) (g_preV hP hD hK hN (k := k) hk (by decide) rfl rfl rfl rfl) rfl rfl hl.1 rfl (lv_room (Nat.le_of_ble_eq_true rfl)) dX6_come_42 ⟨Nat.le_of_ble_eq_true rfl, Nat.le_of_ble_eq_true rfl⟩) (fun u4 H locs hu4 hP hD hS => ?_)
      exact g_iret (v := f_X6_fail u1 k (nI 2)) hx hb hr hlocks rfl hP hD hS (by rw [show (mZ_come J z N a b c0 d) = J from (by simp only [mZ_come]; rw [if_neg (by rw [show thZ_come J z N a b c0 d = 2 from (by simp only [thZ_come]; rw [if_pos (cell_1 c_2)]; exact rng_0 (lo := nI 0) c_3)]; decide)]), show (nZ_come J z N a b c0 d) = N from (by simp only [nZ_come]; rw [if_neg (by rw [show thZ_come J z N a b c0 d = 2 from (by simp only [thZ_come]; rw [if_pos (cell_1 c_2)]; exact rng_0 (lo := nI 0) c_3)]; decide)])]; exact Po.fail hR1 hu4 (by simp only [thZ_come]; rw [if_pos (cell_1 c_2)]; exact rng_0 (lo := nI 0) c_3) (by decide)) dX6_come_45
    · skip
      refine lv_iload hx hb dX6_come_29 (lv_at hl 4 rfl) ?_
      refine lv_iconst (v := nI 0) hx hb dX6_come_31 (by decide) ?_
      refine lv_bipush (v := nI 9) hx hb dX6_come_32 (by decide) ?_
      refine g_callF (F := f_X6_isIn d (nI 0) (nI 9)) hD hS hA (va_runS (As := [.int d, .int (nI 0), .int (nI 9)]) (rest := []) ⟨hx, hb, hml, hown, hts⟩ (c_X6_isIn l D cs ad u1 H.size d (nI 0) (nI 9)) (va_cwS 3 hts gX6_come_X6_isIn rfl rfl rfl (by decide +kernel) ⟨Nat.le_of_ble_eq_true rfl, Nat.le_of_ble_eq_true rfl⟩) (g_preS hP hD hK hN) rfl rfl hl.1 rfl (lv_room (Nat.le_of_ble_eq_true rfl)) dX6_come_34 ⟨Nat.le_of_ble_eq_true rfl, Nat.le_of_ble_eq_true rfl⟩) (fun H locs hP hD hS => ?_)
      refine lv_if_ne (tgt := 46) hx hb dX6_come_37 (by decide) (fun c_5 => ?_) (fun c_5 => ?_)
      · skip
        refine lv_iload_n hx hb dX6_come_46 rfl (lv_at hl 1 rfl) ?_
        refine lv_bipush (v := nI 16) hx hb dX6_come_47 (by decide) ?_
        refine lv_iload_n hx hb dX6_come_49 rfl (lv_at hl 2 rfl) ?_
        refine lv_imul hx hb dX6_come_50 ?_
        refine lv_iadd hx hb dX6_come_51 ?_
        have h256 := pl_256 (cell_1 c_2)
        refine lv_topi (fun y9 ey9 => ?_)
        obtain rfl := ey9.trans (pl_x (cell_1 c_2))
        refine lv_istore (lv' := [(5, .int (nI (pl a b))), (0, .ref (ad k)), (1, .int a), (2, .int b), (3, .int c0), (4, .int d)]) hx hb dX6_come_52 hl (by decide) rfl (fun ls hl => ?_)
        refine lv_aload_n hx hb dX6_come_54 rfl (lv_at hl 1 rfl) ?_
        refine g_get (κ := 10) (ci := 6) (v := .ref (ad (k + 1))) (C := RX6) (T := TX6) (N := 8) hx hb hts hown hK hP (k := k) hk (by decide) rfl (fun _ h => List.mem_cons_of_mem _ (List.mem_append_right _ h)) rfl 1 (by decide) (hts _ (List.mem_of_getElem? (i := 2) rfl)) (fun _ h9 => h9) rfl dX6_come_55 ?_
        refine lv_iload hx hb dX6_come_58 (lv_at hl 0 rfl) ?_
        refine g_ialdn (n := 256) (i := (pl a b)) hx hb hK hP (k := (k + 1)) (kd_10_1 hk) (by decide) rfl (by omega) (by decide) dX6_come_60 ?_
        rw [show u1 (k + 1) (pl a b) = J (z + 1 + 1) (pl a b) from (hR1.c1 (by omega))]
        refine lv_bipush (v := nI 10) hx hb dX6_come_61 (by decide) ?_
        refine lv_icmp_eq (tgt := 85) hx hb dX6_come_63 (by decide) (fun c_6 => ?_) (fun c_6 => ?_)
        · skip
          refine lv_aload_n hx hb dX6_come_85 rfl (lv_at hl 1 rfl) ?_
          refine lv_iconst (v := nI 3) hx hb dX6_come_86 (by decide) ?_
          refine g_callFM (F := f_X6_fail u1 k (nI 3)) (M := m_X6_fail u1 k (nI 3)) hD hS hA (va_runV (As := [.int (nI 3)]) (rest := []) ⟨hx, hb, hml, hown, hts⟩ (c_X6_fail l D cs ad u1 H.size k hk (nI 3)) (cwV 1 hts gX6_come_X6_fail rfl rfl rfl (by decide +kernel) ⟨Nat.le_of_ble_eq_true rfl, Nat.le_of_ble_eq_true rfl⟩) (g_preV hP hD hK hN (k := k) hk (by decide) rfl rfl rfl rfl) rfl rfl hl.1 rfl (lv_room (Nat.le_of_ble_eq_true rfl)) dX6_come_87 ⟨Nat.le_of_ble_eq_true rfl, Nat.le_of_ble_eq_true rfl⟩) (fun u7 H locs hu7 hP hD hS => ?_)
          exact g_iret (v := f_X6_fail u1 k (nI 3)) hx hb hr hlocks rfl hP hD hS (by rw [show (mZ_come J z N a b c0 d) = J from (by simp only [mZ_come]; rw [if_neg (by rw [show thZ_come J z N a b c0 d = 3 from (by simp only [thZ_come]; rw [if_pos (cell_1 c_2)]; refine (rng_1 (lo := nI 0) c_3).trans ?_; refine (rng_1 (lo := nI 0) c_5).trans ?_; rw [sort_in h256]; rw [if_pos c_6])]; decide)]), show (nZ_come J z N a b c0 d) = N from (by simp only [nZ_come]; rw [if_neg (by rw [show thZ_come J z N a b c0 d = 3 from (by simp only [thZ_come]; rw [if_pos (cell_1 c_2)]; refine (rng_1 (lo := nI 0) c_3).trans ?_; refine (rng_1 (lo := nI 0) c_5).trans ?_; rw [sort_in h256]; rw [if_pos c_6])]; decide)])]; exact Po.fail hR1 hu7 (by simp only [thZ_come]; rw [if_pos (cell_1 c_2)]; refine (rng_1 (lo := nI 0) c_3).trans ?_; refine (rng_1 (lo := nI 0) c_5).trans ?_; rw [sort_in h256]; rw [if_pos c_6]) (by decide)) dX6_come_90
        · skip
          refine lv_aload_n hx hb dX6_come_66 rfl (lv_at hl 1 rfl) ?_
          refine lv_iload hx hb dX6_come_67 (lv_at hl 0 rfl) ?_
          refine lv_iconst (v := nI 1) hx hb dX6_come_69 (by decide) ?_
          refine g_callF (F := pplF J z N (pl a b) (nI 1)) hD hS hA (va_runV (As := [.int (nI (pl a b)), .int (nI 1)]) (rest := []) ⟨hx, hb, hml, hown, hts⟩ (c_X6_peopleAt l D cs ad u1 H.size k hk (pl a b) (by omega) (nI 1) (by decide) z J N hR1 hIV) (cwV 2 hts gX6_come_X6_peopleAt rfl rfl rfl (by decide +kernel) ⟨Nat.le_of_ble_eq_true rfl, Nat.le_of_ble_eq_true rfl⟩) (g_preV hP hD hK hN (k := k) hk (by decide) rfl rfl rfl rfl) rfl rfl hl.1 rfl (lv_room (Nat.le_of_ble_eq_true rfl)) dX6_come_70 ⟨Nat.le_of_ble_eq_true rfl, Nat.le_of_ble_eq_true rfl⟩) (fun H locs hP hD hS => ?_)
          refine lv_if_gt (tgt := 85) hx hb dX6_come_73 (by decide) (fun c_8 => ?_) (fun c_8 => ?_)
          · skip
            refine lv_aload_n hx hb dX6_come_85 rfl (lv_at hl 1 rfl) ?_
            refine lv_iconst (v := nI 3) hx hb dX6_come_86 (by decide) ?_
            refine g_callFM (F := f_X6_fail u1 k (nI 3)) (M := m_X6_fail u1 k (nI 3)) hD hS hA (va_runV (As := [.int (nI 3)]) (rest := []) ⟨hx, hb, hml, hown, hts⟩ (c_X6_fail l D cs ad u1 H.size k hk (nI 3)) (cwV 1 hts gX6_come_X6_fail rfl rfl rfl (by decide +kernel) ⟨Nat.le_of_ble_eq_true rfl, Nat.le_of_ble_eq_true rfl⟩) (g_preV hP hD hK hN (k := k) hk (by decide) rfl rfl rfl rfl) rfl rfl hl.1 rfl (lv_room (Nat.le_of_ble_eq_true rfl)) dX6_come_87 ⟨Nat.le_of_ble_eq_true rfl, Nat.le_of_ble_eq_true rfl⟩) (fun u9 H locs hu9 hP hD hS => ?_)
            exact g_iret (v := f_X6_fail u1 k (nI 3)) hx hb hr hlocks rfl hP hD hS (by rw [show (mZ_come J z N a b c0 d) = J from (by simp only [mZ_come]; rw [if_neg (by rw [show thZ_come J z N a b c0 d = 3 from (by simp only [thZ_come]; rw [if_pos (cell_1 c_2)]; refine (rng_1 (lo := nI 0) c_3).trans ?_; refine (rng_1 (lo := nI 0) c_5).trans ?_; rw [sort_in h256]; rw [if_neg c_6, if_neg (by rw [← ppl1]; exact Int32.not_le.mpr c_8)])]; decide)]), show (nZ_come J z N a b c0 d) = N from (by simp only [nZ_come]; rw [if_neg (by rw [show thZ_come J z N a b c0 d = 3 from (by simp only [thZ_come]; rw [if_pos (cell_1 c_2)]; refine (rng_1 (lo := nI 0) c_3).trans ?_; refine (rng_1 (lo := nI 0) c_5).trans ?_; rw [sort_in h256]; rw [if_neg c_6, if_neg (by rw [← ppl1]; exact Int32.not_le.mpr c_8)])]; decide)])]; exact Po.fail hR1 hu9 (by simp only [thZ_come]; rw [if_pos (cell_1 c_2)]; refine (rng_1 (lo := nI 0) c_3).trans ?_; refine (rng_1 (lo := nI 0) c_5).trans ?_; rw [sort_in h256]; rw [if_neg c_6, if_neg (by rw [← ppl1]; exact Int32.not_le.mpr c_8)]) (by decide)) dX6_come_90
          · skip
            refine lv_aload_n hx hb dX6_come_76 rfl (lv_at hl 1 rfl) ?_
            refine g_get (κ := 10) (ci := 6) (v := .int (u1 k 6)) (C := RX6) (T := TX6) (N := 8) hx hb hts hown hK hP (k := k) hk (by decide) rfl (fun _ h => List.mem_cons_of_mem _ (List.mem_append_right _ h)) rfl 6 (by decide) (hts _ (List.mem_of_getElem? (i := 3) rfl)) (fun _ h9 => h9) rfl dX6_come_77 ?_
            rw [show u1 k 6 = nI N from hR1.n]
            refine lv_bipush (v := nI 8) hx hb dX6_come_80 (by decide) ?_
            refine lv_icmp_ne (tgt := 91) hx hb dX6_come_82 (by decide) (fun c_10 => ?_) (fun c_10 => ?_)
            · skip
              have nc_10 : ¬ N = 8 := fun z => c_10 ((nI_eq (a := N) (b := 8) (by omega) (by omega)).mpr z)
              refine lv_aload_n hx hb dX6_come_91 rfl (lv_at hl 1 rfl) ?_
              refine lv_iload hx hb dX6_come_92 (lv_at hl 0 rfl) ?_
              refine g_callF (F := f_X6_isOpen u1 k (pl a b)) hD hS hA (va_runV (As := [.int (nI (pl a b))]) (rest := []) ⟨hx, hb, hml, hown, hts⟩ (c_X6_isOpen l D cs ad u1 H.size k hk (pl a b) (by omega)) (cwV 1 hts gX6_come_X6_isOpen rfl rfl rfl (by decide +kernel) ⟨Nat.le_of_ble_eq_true rfl, Nat.le_of_ble_eq_true rfl⟩) (g_preV hP hD hK hN (k := k) hk (by decide) rfl rfl rfl rfl) rfl rfl hl.1 rfl (lv_room (Nat.le_of_ble_eq_true rfl)) dX6_come_94 ⟨Nat.le_of_ble_eq_true rfl, Nat.le_of_ble_eq_true rfl⟩) (fun H locs hP hD hS => ?_)
              refine lv_if_ne (tgt := 107) hx hb dX6_come_97 (by decide) (fun c_11 => ?_) (fun c_11 => ?_)
              · skip
                refine lv_aload_n hx hb dX6_come_107 rfl (lv_at hl 1 rfl) ?_
                refine lv_aload_n hx hb dX6_come_108 rfl (lv_at hl 1 rfl) ?_
                refine g_get (κ := 10) (ci := 6) (v := .int (u1 k 6)) (C := RX6) (T := TX6) (N := 8) hx hb hts hown hK hP (k := k) hk (by decide) rfl (fun _ h => List.mem_cons_of_mem _ (List.mem_append_right _ h)) rfl 6 (by decide) (hts _ (List.mem_of_getElem? (i := 3) rfl)) (fun _ h9 => h9) rfl dX6_come_109 ?_
                rw [show u1 k 6 = nI N from hR1.n]
                refine lv_iconst (v := nI 0) hx hb dX6_come_112 (by decide) ?_
                refine lv_iload hx hb dX6_come_113 (lv_at hl 0 rfl) ?_
                refine g_callM (M := wr u1 (k + 4) (31 * N + 0) (nI (pl a b))) hD hS hA (va_runV (As := [.int (nI N), .int (nI 0), .int (nI (pl a b))]) (rest := []) ⟨hx, hb, hml, hown, hts⟩ (c_X6_set l D cs ad u1 H.size k hk N (by omega) 0 (by omega) (nI (pl a b))) (cwV 3 hts gX6_come_X6_set rfl rfl rfl (by decide +kernel) ⟨Nat.le_of_ble_eq_true rfl, Nat.le_of_ble_eq_true rfl⟩) (g_preV hP hD hK hN (k := k) hk (by decide) rfl rfl rfl rfl) rfl rfl hl.1 rfl (lv_room (Nat.le_of_ble_eq_true rfl)) dX6_come_115 ⟨Nat.le_of_ble_eq_true rfl, Nat.le_of_ble_eq_true rfl⟩) (fun u12 H locs hu12 hP hD hS => ?_)
                refine lv_aload_n hx hb dX6_come_118 rfl (lv_at hl 1 rfl) ?_
                refine lv_aload_n hx hb dX6_come_119 rfl (lv_at hl 1 rfl) ?_
                refine g_get (κ := 10) (ci := 6) (v := .int (u12 k 6)) (C := RX6) (T := TX6) (N := 8) hx hb hts hown hK hP (k := k) hk (by decide) rfl (fun _ h => List.mem_cons_of_mem _ (List.mem_append_right _ h)) rfl 6 (by decide) (hts _ (List.mem_of_getElem? (i := 3) rfl)) (fun _ h9 => h9) rfl dX6_come_120 ?_
                rw [show u12 k 6 = nI N from (by rw [hu12]; rw [wr_n _ _ _ (by omega)]; exact hR1.n)]
                refine lv_iconst (v := nI 1) hx hb dX6_come_123 (by decide) ?_
                refine lv_iload_n hx hb dX6_come_124 rfl (lv_at hl 4 rfl) ?_
                refine g_callM (M := wr u12 (k + 4) (31 * N + 1) c0) hD hS hA (va_runV (As := [.int (nI N), .int (nI 1), .int c0]) (rest := []) ⟨hx, hb, hml, hown, hts⟩ (c_X6_set l D cs ad u12 H.size k hk N (by omega) 1 (by omega) c0) (cwV 3 hts gX6_come_X6_set rfl rfl rfl (by decide +kernel) ⟨Nat.le_of_ble_eq_true rfl, Nat.le_of_ble_eq_true rfl⟩) (g_preV hP hD hK hN (k := k) hk (by decide) rfl rfl rfl rfl) rfl rfl hl.1 rfl (lv_room (Nat.le_of_ble_eq_true rfl)) dX6_come_125 ⟨Nat.le_of_ble_eq_true rfl, Nat.le_of_ble_eq_true rfl⟩) (fun u13 H locs hu13 hP hD hS => ?_)
                refine lv_aload_n hx hb dX6_come_128 rfl (lv_at hl 1 rfl) ?_
                refine lv_aload_n hx hb dX6_come_129 rfl (lv_at hl 1 rfl) ?_
                refine g_get (κ := 10) (ci := 6) (v := .int (u13 k 6)) (C := RX6) (T := TX6) (N := 8) hx hb hts hown hK hP (k := k) hk (by decide) rfl (fun _ h => List.mem_cons_of_mem _ (List.mem_append_right _ h)) rfl 6 (by decide) (hts _ (List.mem_of_getElem? (i := 3) rfl)) (fun _ h9 => h9) rfl dX6_come_130 ?_
                rw [show u13 k 6 = nI N from (by rw [hu13]; rw [wr_n _ _ _ (by omega)]; rw [hu12]; rw [wr_n _ _ _ (by omega)]; exact hR1.n)]
                refine lv_iconst (v := nI 2) hx hb dX6_come_133 (by decide) ?_
                refine lv_iload hx hb dX6_come_134 (lv_at hl 5 rfl) ?_
                refine g_callM (M := wr u13 (k + 4) (31 * N + 2) d) hD hS hA (va_runV (As := [.int (nI N), .int (nI 2), .int d]) (rest := []) ⟨hx, hb, hml, hown, hts⟩ (c_X6_set l D cs ad u13 H.size k hk N (by omega) 2 (by omega) d) (cwV 3 hts gX6_come_X6_set rfl rfl rfl (by decide +kernel) ⟨Nat.le_of_ble_eq_true rfl, Nat.le_of_ble_eq_true rfl⟩) (g_preV hP hD hK hN (k := k) hk (by decide) rfl rfl rfl rfl) rfl rfl hl.1 rfl (lv_room (Nat.le_of_ble_eq_true rfl)) dX6_come_136 ⟨Nat.le_of_ble_eq_true rfl, Nat.le_of_ble_eq_true rfl⟩) (fun u14 H locs hu14 hP hD hS => ?_)
                refine lv_aload_n hx hb dX6_come_139 rfl (lv_at hl 1 rfl) ?_
                refine lv_dup hx hb dX6_come_140 rfl ?_
                refine g_get (κ := 10) (ci := 6) (v := .int (u14 k 6)) (C := RX6) (T := TX6) (N := 8) hx hb hts hown hK hP (k := k) hk (by decide) rfl (fun _ h => List.mem_cons_of_mem _ (List.mem_append_right _ h)) rfl 6 (by decide) (hts _ (List.mem_of_getElem? (i := 3) rfl)) (fun _ h9 => h9) rfl dX6_come_141 ?_
                rw [show u14 k 6 = nI N from (by rw [hu14]; rw [wr_n _ _ _ (by omega)]; rw [hu13]; rw [wr_n _ _ _ (by omega)]; rw [hu12]; rw [wr_n _ _ _ (by omega)]; exact hR1.n)]
                refine lv_iconst (v := nI 1) hx hb dX6_come_144 (by decide) ?_
                refine lv_iadd hx hb dX6_come_145 ?_
                rw [nI_add N 1]
                refine g_put (κ := 10) (ci := 6) (v := nI (N + 1)) (ty := .int) (C := RX6) (T := TX6) (N := 8) hx hb hts hown hK hP hD hS (k := k) hk (by decide) rfl (fun _ h => List.mem_cons_of_mem _ (List.mem_append_right _ h)) tyX6 tyX6_ok nmX6 rfl 6 (by decide) (hts _ (List.mem_of_getElem? (i := 3) rfl)) (fun _ h9 => h9) rfl (by decide +kernel) rfl rfl (Nat.le_of_ble_eq_true rfl) rfl dX6_come_146 (fun u15 H locs hu15 hP hD hS => ?_)
                refine lv_aload_n hx hb dX6_come_149 rfl (lv_at hl 1 rfl) ?_
                refine g_get (κ := 10) (ci := 6) (v := .int (u15 k 6)) (C := RX6) (T := TX6) (N := 8) hx hb hts hown hK hP (k := k) hk (by decide) rfl (fun _ h => List.mem_cons_of_mem _ (List.mem_append_right _ h)) rfl 6 (by decide) (hts _ (List.mem_of_getElem? (i := 3) rfl)) (fun _ h9 => h9) rfl dX6_come_150 ?_
                rw [show u15 k 6 = nI (N + 1) from (by rw [hu15, wr_ss])]
                refine lv_iconst (v := nI 1) hx hb dX6_come_153 (by decide) ?_
                refine lv_isub hx hb dX6_come_154 ?_
                rw [pk_sub (a := (N + 1)) (b := 1) (by omega)]
                exact g_iret (v := nI ((N + 1) - 1)) hx hb hr hlocks rfl hP hD hS (have e9 : thZ_come J z N a b c0 d = 0 := (by simp only [thZ_come]; rw [if_pos (cell_1 c_2)]; refine (rng_1 (lo := nI 0) c_3).trans ?_; refine (rng_1 (lo := nI 0) c_5).trans ?_; rw [sort_in h256, if_neg c_6, if_pos (by rw [← ppl1]; exact Int32.not_lt.mp c_8), if_pos ((nI_ltI (by omega) (by decide)).mpr (by have := nc_10; omega))]); have hn8 : N < 8 := (by have := nc_10; omega); Po.ok (by simp only [mZ_come, nZ_come, m_X0_welcome]; rw [if_pos e9, if_pos e9, if_pos ((nI_ltI (by omega) (by decide)).mpr hn8), if_neg (show ¬ f_X3_isOpen J (z + 1) (nI (pl a b)) = 0 from by rw [open_in h256, decide_eq_true (p := J (z + 1 + 1) (pl a b) = 0) (hR1.open1 h256 c_11)]; decide), hu15, hu14, hu13, hu12]; exact ((((hR1).wt (i := N) (f := 0) (nI (pl a b)) hn8 (by decide)).wt (i := N) (f := 1) c0 hn8 (by decide)).wt (i := N) (f := 2) d hn8 (by decide)).more (nI (N + 1)) (by rw [wr_sn _ _ _ (by decide), wr_sn _ _ _ (by decide), wr_sn _ _ _ (by decide)]; exact (hIV.2.2.2.2.2.1 N (Nat.le_refl _) (show N < 8 from by have := nc_10; omega)).2.2.1)) (by rw [hu15, hu14, hu13, hu12, wr_sn _ _ _ (by decide), wr_n _ _ _ (by omega), wr_n _ _ _ (by omega), wr_n _ _ _ (by omega)]; exact hT1) e9 rfl) dX6_come_155
              · skip
                refine lv_aload_n hx hb dX6_come_100 rfl (lv_at hl 1 rfl) ?_
                refine lv_iload hx hb dX6_come_101 (lv_at hl 0 rfl) ?_
                refine lv_iconst (v := nI 0) hx hb dX6_come_103 (by decide) ?_
                refine g_callM (M := m_X6_lay u1 k (pl a b) (nI 0)) hD hS hA (va_runV (As := [.int (nI (pl a b)), .int (nI 0)]) (rest := []) ⟨hx, hb, hml, hown, hts⟩ (c_X6_lay l D cs ad u1 H.size k hk (pl a b) (by omega) (nI 0)) (cwV 2 hts gX6_come_X6_lay rfl rfl rfl (by decide +kernel) ⟨Nat.le_of_ble_eq_true rfl, Nat.le_of_ble_eq_true rfl⟩) (g_preV hP hD hK hN (k := k) hk (by decide) rfl rfl rfl rfl) rfl rfl hl.1 rfl (lv_room (Nat.le_of_ble_eq_true rfl)) dX6_come_104 ⟨Nat.le_of_ble_eq_true rfl, Nat.le_of_ble_eq_true rfl⟩) (fun u16 H locs hu16 hP hD hS => ?_)
                refine lv_aload_n hx hb dX6_come_107 rfl (lv_at hl 1 rfl) ?_
                refine lv_aload_n hx hb dX6_come_108 rfl (lv_at hl 1 rfl) ?_
                refine g_get (κ := 10) (ci := 6) (v := .int (u16 k 6)) (C := RX6) (T := TX6) (N := 8) hx hb hts hown hK hP (k := k) hk (by decide) rfl (fun _ h => List.mem_cons_of_mem _ (List.mem_append_right _ h)) rfl 6 (by decide) (hts _ (List.mem_of_getElem? (i := 3) rfl)) (fun _ h9 => h9) rfl dX6_come_109 ?_
                rw [show u16 k 6 = nI N from (by rw [hu16]; simp only [m_X6_lay]; rw [wr_n _ _ _ (by omega), wr_n _ _ _ (by omega), wr_n _ _ _ (by omega)]; exact hR1.n)]
                refine lv_iconst (v := nI 0) hx hb dX6_come_112 (by decide) ?_
                refine lv_iload hx hb dX6_come_113 (lv_at hl 0 rfl) ?_
                refine g_callM (M := wr u16 (k + 4) (31 * N + 0) (nI (pl a b))) hD hS hA (va_runV (As := [.int (nI N), .int (nI 0), .int (nI (pl a b))]) (rest := []) ⟨hx, hb, hml, hown, hts⟩ (c_X6_set l D cs ad u16 H.size k hk N (by omega) 0 (by omega) (nI (pl a b))) (cwV 3 hts gX6_come_X6_set rfl rfl rfl (by decide +kernel) ⟨Nat.le_of_ble_eq_true rfl, Nat.le_of_ble_eq_true rfl⟩) (g_preV hP hD hK hN (k := k) hk (by decide) rfl rfl rfl rfl) rfl rfl hl.1 rfl (lv_room (Nat.le_of_ble_eq_true rfl)) dX6_come_115 ⟨Nat.le_of_ble_eq_true rfl, Nat.le_of_ble_eq_true rfl⟩) (fun u17 H locs hu17 hP hD hS => ?_)
                refine lv_aload_n hx hb dX6_come_118 rfl (lv_at hl 1 rfl) ?_
                refine lv_aload_n hx hb dX6_come_119 rfl (lv_at hl 1 rfl) ?_
                refine g_get (κ := 10) (ci := 6) (v := .int (u17 k 6)) (C := RX6) (T := TX6) (N := 8) hx hb hts hown hK hP (k := k) hk (by decide) rfl (fun _ h => List.mem_cons_of_mem _ (List.mem_append_right _ h)) rfl 6 (by decide) (hts _ (List.mem_of_getElem? (i := 3) rfl)) (fun _ h9 => h9) rfl dX6_come_120 ?_
                rw [show u17 k 6 = nI N from (by rw [hu17]; rw [wr_n _ _ _ (by omega)]; rw [hu16]; simp only [m_X6_lay]; rw [wr_n _ _ _ (by omega), wr_n _ _ _ (by omega), wr_n _ _ _ (by omega)]; exact hR1.n)]
                refine lv_iconst (v := nI 1) hx hb dX6_come_123 (by decide) ?_
                refine lv_iload_n hx hb dX6_come_124 rfl (lv_at hl 4 rfl) ?_
                refine g_callM (M := wr u17 (k + 4) (31 * N + 1) c0) hD hS hA (va_runV (As := [.int (nI N), .int (nI 1), .int c0]) (rest := []) ⟨hx, hb, hml, hown, hts⟩ (c_X6_set l D cs ad u17 H.size k hk N (by omega) 1 (by omega) c0) (cwV 3 hts gX6_come_X6_set rfl rfl rfl (by decide +kernel) ⟨Nat.le_of_ble_eq_true rfl, Nat.le_of_ble_eq_true rfl⟩) (g_preV hP hD hK hN (k := k) hk (by decide) rfl rfl rfl rfl) rfl rfl hl.1 rfl (lv_room (Nat.le_of_ble_eq_true rfl)) dX6_come_125 ⟨Nat.le_of_ble_eq_true rfl, Nat.le_of_ble_eq_true rfl⟩) (fun u18 H locs hu18 hP hD hS => ?_)
                refine lv_aload_n hx hb dX6_come_128 rfl (lv_at hl 1 rfl) ?_
                refine lv_aload_n hx hb dX6_come_129 rfl (lv_at hl 1 rfl) ?_
                refine g_get (κ := 10) (ci := 6) (v := .int (u18 k 6)) (C := RX6) (T := TX6) (N := 8) hx hb hts hown hK hP (k := k) hk (by decide) rfl (fun _ h => List.mem_cons_of_mem _ (List.mem_append_right _ h)) rfl 6 (by decide) (hts _ (List.mem_of_getElem? (i := 3) rfl)) (fun _ h9 => h9) rfl dX6_come_130 ?_
                rw [show u18 k 6 = nI N from (by rw [hu18]; rw [wr_n _ _ _ (by omega)]; rw [hu17]; rw [wr_n _ _ _ (by omega)]; rw [hu16]; simp only [m_X6_lay]; rw [wr_n _ _ _ (by omega), wr_n _ _ _ (by omega), wr_n _ _ _ (by omega)]; exact hR1.n)]
                refine lv_iconst (v := nI 2) hx hb dX6_come_133 (by decide) ?_
                refine lv_iload hx hb dX6_come_134 (lv_at hl 5 rfl) ?_
                refine g_callM (M := wr u18 (k + 4) (31 * N + 2) d) hD hS hA (va_runV (As := [.int (nI N), .int (nI 2), .int d]) (rest := []) ⟨hx, hb, hml, hown, hts⟩ (c_X6_set l D cs ad u18 H.size k hk N (by omega) 2 (by omega) d) (cwV 3 hts gX6_come_X6_set rfl rfl rfl (by decide +kernel) ⟨Nat.le_of_ble_eq_true rfl, Nat.le_of_ble_eq_true rfl⟩) (g_preV hP hD hK hN (k := k) hk (by decide) rfl rfl rfl rfl) rfl rfl hl.1 rfl (lv_room (Nat.le_of_ble_eq_true rfl)) dX6_come_136 ⟨Nat.le_of_ble_eq_true rfl, Nat.le_of_ble_eq_true rfl⟩) (fun u19 H locs hu19 hP hD hS => ?_)
                refine lv_aload_n hx hb dX6_come_139 rfl (lv_at hl 1 rfl) ?_
                refine lv_dup hx hb dX6_come_140 rfl ?_
                refine g_get (κ := 10) (ci := 6) (v := .int (u19 k 6)) (C := RX6) (T := TX6) (N := 8) hx hb hts hown hK hP (k := k) hk (by decide) rfl (fun _ h => List.mem_cons_of_mem _ (List.mem_append_right _ h)) rfl 6 (by decide) (hts _ (List.mem_of_getElem? (i := 3) rfl)) (fun _ h9 => h9) rfl dX6_come_141 ?_
                rw [show u19 k 6 = nI N from (by rw [hu19]; rw [wr_n _ _ _ (by omega)]; rw [hu18]; rw [wr_n _ _ _ (by omega)]; rw [hu17]; rw [wr_n _ _ _ (by omega)]; rw [hu16]; simp only [m_X6_lay]; rw [wr_n _ _ _ (by omega), wr_n _ _ _ (by omega), wr_n _ _ _ (by omega)]; exact hR1.n)]
                refine lv_iconst (v := nI 1) hx hb dX6_come_144 (by decide) ?_
                refine lv_iadd hx hb dX6_come_145 ?_
                rw [nI_add N 1]
                refine g_put (κ := 10) (ci := 6) (v := nI (N + 1)) (ty := .int) (C := RX6) (T := TX6) (N := 8) hx hb hts hown hK hP hD hS (k := k) hk (by decide) rfl (fun _ h => List.mem_cons_of_mem _ (List.mem_append_right _ h)) tyX6 tyX6_ok nmX6 rfl 6 (by decide) (hts _ (List.mem_of_getElem? (i := 3) rfl)) (fun _ h9 => h9) rfl (by decide +kernel) rfl rfl (Nat.le_of_ble_eq_true rfl) rfl dX6_come_146 (fun u20 H locs hu20 hP hD hS => ?_)
                refine lv_aload_n hx hb dX6_come_149 rfl (lv_at hl 1 rfl) ?_
                refine g_get (κ := 10) (ci := 6) (v := .int (u20 k 6)) (C := RX6) (T := TX6) (N := 8) hx hb hts hown hK hP (k := k) hk (by decide) rfl (fun _ h => List.mem_cons_of_mem _ (List.mem_append_right _ h)) rfl 6 (by decide) (hts _ (List.mem_of_getElem? (i := 3) rfl)) (fun _ h9 => h9) rfl dX6_come_150 ?_
                rw [show u20 k 6 = nI (N + 1) from (by rw [hu20, wr_ss])]
                refine lv_iconst (v := nI 1) hx hb dX6_come_153 (by decide) ?_
                refine lv_isub hx hb dX6_come_154 ?_
                rw [pk_sub (a := (N + 1)) (b := 1) (by omega)]
                exact g_iret (v := nI ((N + 1) - 1)) hx hb hr hlocks rfl hP hD hS (have e9 : thZ_come J z N a b c0 d = 0 := (by simp only [thZ_come]; rw [if_pos (cell_1 c_2)]; refine (rng_1 (lo := nI 0) c_3).trans ?_; refine (rng_1 (lo := nI 0) c_5).trans ?_; rw [sort_in h256, if_neg c_6, if_pos (by rw [← ppl1]; exact Int32.not_lt.mp c_8), if_pos ((nI_ltI (by omega) (by decide)).mpr (by have := nc_10; omega))]); have hn8 : N < 8 := (by have := nc_10; omega); Po.ok (by simp only [mZ_come, nZ_come, m_X0_welcome]; rw [if_pos e9, if_pos e9, if_pos ((nI_ltI (by omega) (by decide)).mpr hn8), if_pos (show f_X3_isOpen J (z + 1) (nI (pl a b)) = 0 from by rw [open_in h256, decide_eq_false (p := J (z + 1 + 1) (pl a b) = 0) (hR1.open0 h256 c_11)]; rfl), hu20, hu19, hu18, hu17, hu16]; exact (((((hR1.lay h256 (nI 0))).wt (i := N) (f := 0) (nI (pl a b)) hn8 (by decide)).wt (i := N) (f := 1) c0 hn8 (by decide)).wt (i := N) (f := 2) d hn8 (by decide)).more (nI (N + 1)) (by rw [wr_sn _ _ _ (by decide), wr_sn _ _ _ (by decide), wr_sn _ _ _ (by decide), put_o (by omega)]; exact (hIV.2.2.2.2.2.1 N (Nat.le_refl _) (show N < 8 from by have := nc_10; omega)).2.2.1)) (by rw [hu20, hu19, hu18, hu17, hu16, wr_sn _ _ _ (by decide), wr_n _ _ _ (by omega), wr_n _ _ _ (by omega), wr_n _ _ _ (by omega)]; simp only [m_X6_lay]; rw [wr_n _ _ _ (by omega), wr_n _ _ _ (by omega), wr_n _ _ _ (by omega)]; exact hT1) e9 rfl) dX6_come_155
            · skip
              have nc_10 : N = 8 := (nI_eq (a := N) (b := 8) (by omega) (by omega)).mp c_10
              refine lv_aload_n hx hb dX6_come_85 rfl (lv_at hl 1 rfl) ?_
              refine lv_iconst (v := nI 3) hx hb dX6_come_86 (by decide) ?_
              refine g_callFM (F := f_X6_fail u1 k (nI 3)) (M := m_X6_fail u1 k (nI 3)) hD hS hA (va_runV (As := [.int (nI 3)]) (rest := []) ⟨hx, hb, hml, hown, hts⟩ (c_X6_fail l D cs ad u1 H.size k hk (nI 3)) (cwV 1 hts gX6_come_X6_fail rfl rfl rfl (by decide +kernel) ⟨Nat.le_of_ble_eq_true rfl, Nat.le_of_ble_eq_true rfl⟩) (g_preV hP hD hK hN (k := k) hk (by decide) rfl rfl rfl rfl) rfl rfl hl.1 rfl (lv_room (Nat.le_of_ble_eq_true rfl)) dX6_come_87 ⟨Nat.le_of_ble_eq_true rfl, Nat.le_of_ble_eq_true rfl⟩) (fun u21 H locs hu21 hP hD hS => ?_)
              exact g_iret (v := f_X6_fail u1 k (nI 3)) hx hb hr hlocks rfl hP hD hS (by rw [show (mZ_come J z N a b c0 d) = J from (by simp only [mZ_come]; rw [if_neg (by rw [show thZ_come J z N a b c0 d = 3 from (by simp only [thZ_come]; rw [if_pos (cell_1 c_2)]; refine (rng_1 (lo := nI 0) c_3).trans ?_; refine (rng_1 (lo := nI 0) c_5).trans ?_; rw [sort_in h256]; rw [if_neg c_6, if_pos (by rw [← ppl1]; exact Int32.not_lt.mp c_8), if_neg (fun y => absurd ((nI_ltI (by omega) (by decide)).mp y) (by have := nc_10; omega))])]; decide)]), show (nZ_come J z N a b c0 d) = N from (by simp only [nZ_come]; rw [if_neg (by rw [show thZ_come J z N a b c0 d = 3 from (by simp only [thZ_come]; rw [if_pos (cell_1 c_2)]; refine (rng_1 (lo := nI 0) c_3).trans ?_; refine (rng_1 (lo := nI 0) c_5).trans ?_; rw [sort_in h256]; rw [if_neg c_6, if_pos (by rw [← ppl1]; exact Int32.not_lt.mp c_8), if_neg (fun y => absurd ((nI_ltI (by omega) (by decide)).mp y) (by have := nc_10; omega))])]; decide)])]; exact Po.fail hR1 hu21 (by simp only [thZ_come]; rw [if_pos (cell_1 c_2)]; refine (rng_1 (lo := nI 0) c_3).trans ?_; refine (rng_1 (lo := nI 0) c_5).trans ?_; rw [sort_in h256]; rw [if_neg c_6, if_pos (by rw [← ppl1]; exact Int32.not_lt.mp c_8), if_neg (fun y => absurd ((nI_ltI (by omega) (by decide)).mp y) (by have := nc_10; omega))]) (by decide)) dX6_come_90
      · skip
        refine lv_aload_n hx hb dX6_come_40 rfl (lv_at hl 0 rfl) ?_
        refine lv_iconst (v := nI 2) hx hb dX6_come_41 (by decide) ?_
        refine g_callFM (F := f_X6_fail u1 k (nI 2)) (M := m_X6_fail u1 k (nI 2)) hD hS hA (va_runV (As := [.int (nI 2)]) (rest := []) ⟨hx, hb, hml, hown, hts⟩ (c_X6_fail l D cs ad u1 H.size k hk (nI 2)) (cwV 1 hts gX6_come_X6_fail rfl rfl rfl (by decide +kernel) ⟨Nat.le_of_ble_eq_true rfl, Nat.le_of_ble_eq_true rfl⟩) (g_preV hP hD hK hN (k := k) hk (by decide) rfl rfl rfl rfl) rfl rfl hl.1 rfl (lv_room (Nat.le_of_ble_eq_true rfl)) dX6_come_42 ⟨Nat.le_of_ble_eq_true rfl, Nat.le_of_ble_eq_true rfl⟩) (fun u22 H locs hu22 hP hD hS => ?_)
        exact g_iret (v := f_X6_fail u1 k (nI 2)) hx hb hr hlocks rfl hP hD hS (by rw [show (mZ_come J z N a b c0 d) = J from (by simp only [mZ_come]; rw [if_neg (by rw [show thZ_come J z N a b c0 d = 2 from (by simp only [thZ_come]; rw [if_pos (cell_1 c_2)]; refine (rng_1 (lo := nI 0) c_3).trans ?_; exact rng_0 (lo := nI 0) c_5)]; decide)]), show (nZ_come J z N a b c0 d) = N from (by simp only [nZ_come]; rw [if_neg (by rw [show thZ_come J z N a b c0 d = 2 from (by simp only [thZ_come]; rw [if_pos (cell_1 c_2)]; refine (rng_1 (lo := nI 0) c_3).trans ?_; exact rng_0 (lo := nI 0) c_5)]; decide)])]; exact Po.fail hR1 hu22 (by simp only [thZ_come]; rw [if_pos (cell_1 c_2)]; refine (rng_1 (lo := nI 0) c_3).trans ?_; exact rng_0 (lo := nI 0) c_5) (by decide)) dX6_come_45
  · skip
    refine lv_aload_n hx hb dX6_come_13 rfl (lv_at hl 0 rfl) ?_
    refine lv_iconst (v := nI 1) hx hb dX6_come_14 (by decide) ?_
    refine g_callFM (F := f_X6_fail u1 k (nI 1)) (M := m_X6_fail u1 k (nI 1)) hD hS hA (va_runV (As := [.int (nI 1)]) (rest := []) ⟨hx, hb, hml, hown, hts⟩ (c_X6_fail l D cs ad u1 H.size k hk (nI 1)) (cwV 1 hts gX6_come_X6_fail rfl rfl rfl (by decide +kernel) ⟨Nat.le_of_ble_eq_true rfl, Nat.le_of_ble_eq_true rfl⟩) (g_preV hP hD hK hN (k := k) hk (by decide) rfl rfl rfl rfl) rfl rfl hl.1 rfl (lv_room (Nat.le_of_ble_eq_true rfl)) dX6_come_15 ⟨Nat.le_of_ble_eq_true rfl, Nat.le_of_ble_eq_true rfl⟩) (fun u23 H locs hu23 hP hD hS => ?_)
    exact g_iret (v := f_X6_fail u1 k (nI 1)) hx hb hr hlocks rfl hP hD hS (by rw [show (mZ_come J z N a b c0 d) = J from (by simp only [mZ_come]; rw [if_neg (by rw [show thZ_come J z N a b c0 d = 1 from (by simp only [thZ_come]; rw [cell_0 c_2, if_neg (by decide)])]; decide)]), show (nZ_come J z N a b c0 d) = N from (by simp only [nZ_come]; rw [if_neg (by rw [show thZ_come J z N a b c0 d = 1 from (by simp only [thZ_come]; rw [cell_0 c_2, if_neg (by decide)])]; decide)])]; exact Po.fail hR1 hu23 (by simp only [thZ_come]; rw [cell_0 c_2, if_neg (by decide)]) (by decide)) dX6_come_18
