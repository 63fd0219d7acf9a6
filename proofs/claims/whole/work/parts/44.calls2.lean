section PUB2
variable {z k N : Nat} {J I v : Mm}
theorem Rl.more (h : Rl z J k I N) (x : Int32) (h5 : J (z + 8 + (1 + N)) 5 = 0) : Rl z (wr J z 3 x) k (wr I k 6 (nI (N + 1))) (N + 1) := by
  obtain ⟨a, b, c, d, e⟩ := h
  refine ⟨wr_ss _ _ _ _, fun j hj q hq => by rw [wr_n _ _ _ (by omega), wr_n _ _ _ (by omega)]; exact b j hj q hq, fun i hi => by rw [wr_n _ _ _ (by omega), wr_n _ _ _ (by omega), wr_n _ _ _ (by omega)]; exact c i hi, ?_, ?_⟩
  · rw [wr_n _ _ _ (by omega), wr_sn _ _ _ (by decide), wr_sn _ _ _ (by decide), wr_sn _ _ _ (by decide)]; exact d
  · rw [wr_n _ _ _ (by omega), e]
    simp only [f_X0_openedByCrew, sm]
    rw [wr_n _ _ _ (show z + 8 + (1 + N) ≠ z from by omega), h5, Int32.add_zero]
    exact sm_cg N (fun i _ => by rw [wr_n _ _ _ (by omega)])
def thZ_come (J : Mm) (z N : Nat) (a b c0 d : Int32) : Nat := if th_X5_placeOf a b = 0 then (if c0 < 0 then 2 else (if c0 ≤ nI 20 then (if d < 0 then 2 else (if d ≤ nI 9 then (if f_X3_sortAt J (z + 1) (nI (pl a b)) = nI 10 then 3 else (if f_X0_buriedAt J z (nI (pl a b)) N ≤ 0 then (if nI N < nI 8 then 0 else 3) else 3)) else 2)) else 2)) else th_X5_placeOf a b
def mZ_come (J : Mm) (z N : Nat) (a b c0 d : Int32) : Mm := if thZ_come J z N a b c0 d = 0 then m_X0_welcome J z (nI (pl a b)) c0 d N else J
def nZ_come (J : Mm) (z N : Nat) (a b c0 d : Int32) : Nat := if thZ_come J z N a b c0 d = 0 then N + 1 else N
def thZ_order (J : Mm) (z N : Nat) (a b c0 : Int32) : Nat := if th_X5_member 0 a N = 0 then (if b < 0 then 2 else (if b ≤ nI 6 then (if c0 < nI 1 then 2 else (if c0 ≤ nI 9 then (if nI ((J (z + 8 + (1 + a.toNatClampNeg)) 7).toNatClampNeg + c0.toNatClampNeg) ≤ nI 24 then 0 else 3) else 2)) else 2)) else th_X5_member 0 a N
def mZ_order (J : Mm) (z N : Nat) (a b c0 : Int32) : Mm := if thZ_order J z N a b c0 = 0 then addO J (z + 8 + (1 + a.toNatClampNeg)) (J (z + 8 + (1 + a.toNatClampNeg)) 7).toNatClampNeg b c0.toNatClampNeg else J
def thZ_pass (a : Int32) : Nat := if th_X5_requireTicks a = 0 then 0 else 1
noncomputable def mZ_pass (J : Mm) (z N : Nat) (a : Int32) : Mm := if thZ_pass a = 0 then tkI J z N a.toNatClampNeg else J
theorem tick_1 {a : Int32} (h : ¬ f_X6_isIn a (nI 1) (nI 100) = 0) : th_X5_requireTicks a = 0 := rng_1 h
theorem tick_0 {a : Int32} (h : f_X6_isIn a (nI 1) (nI 100) = 0) : th_X5_requireTicks a = 2 := rng_0 h
theorem pass_1 {a : Int32} (h : ¬ f_X6_isIn a (nI 1) (nI 100) = 0) : thZ_pass a = 0 := if_pos (tick_1 h)
theorem pass_0 {a : Int32} (h : f_X6_isIn a (nI 1) (nI 100) = 0) : thZ_pass a = 1 := if_neg (by rw [tick_0 h]; decide)
theorem in_1n {a : Int32} {n : Nat} (hn : n < 2 ^ 31) (h : ¬ f_X6_isIn a (nI 1) (nI n) = 0) : a = nI a.toNatClampNeg ∧ 1 ≤ a.toNatClampNeg ∧ a.toNatClampNeg ≤ n := i_ge1 hn (in_1 h).1 (in_1 h).2
/-- what a call of the model leaves, its answer by a property -/
def PoP (z k : Nat) (J' : Mm) (N' t : Nat) (P : Int32 → Prop) (r : Int32) (u : Mm) : Prop := Rl z J' k u N' ∧ u k 0 = nI t ∧ (t = 0 → P r)
theorem PoP.fail {t n : Nat} {P : Int32 → Prop} {r : Int32} {u : Mm} (h : Rl z J k I N) (e : u = m_X6_fail I k (nI n)) (ht : t = n) (h0 : n ≠ 0) : PoP z k J N t P r u := by
  refine ⟨?_, ?_, fun y => absurd (ht.symm.trans y) h0⟩
  · rw [e]; exact h.th _
  · rw [e, ht]; exact wr_ss _ _ _ _
theorem PoP.ok {t : Nat} {P : Int32 → Prop} {r : Int32} {u : Mm} (h : Rl z J k u N) (h0 : u k 0 = nI 0) (ht : t = 0) (e : P r) : PoP z k J N t P r u := ⟨h, by rw [ht]; exact h0, fun _ => e⟩
def thZ_two (a b c0 d : Int32) : Nat := if th_X5_placeOf a b = 0 then (if th_X5_placeOf c0 d = 0 then 0 else th_X5_placeOf c0 d) else th_X5_placeOf a b
theorem two_1 {a b c0 d : Int32} (h : ¬ f_X6_isCell a b = 0) (h2 : ¬ f_X6_isCell c0 d = 0) : thZ_two a b c0 d = 0 := by rw [thZ_two, if_pos (cell_1 h), if_pos (cell_1 h2)]
theorem two_0 {a b c0 d : Int32} (h : f_X6_isCell a b = 0 ∨ (¬ f_X6_isCell a b = 0 ∧ f_X6_isCell c0 d = 0)) : thZ_two a b c0 d = 1 := by
  rcases h with h | ⟨h, h2⟩
  · rw [thZ_two, cell_0 h, if_neg (by decide)]
  · rw [thZ_two, if_pos (cell_1 h), cell_0 h2, if_neg (by decide)]
end PUB2

set_option maxHeartbeats 4000000 in
set_option maxRecDepth 100000 in
theorem c_X6_come (l : Launch) (D : va_G) (cs : Nat → ClassId) (ad : Nat → Nat) (I : Mm) (sz : Nat) (k : Nat) (hk : kM.getD k 0 = 10) (a : Int32) (b : Int32) (c0 : Int32) (d : Int32) (z : Nat) (J : Mm) (N : Nat) (hRl : Rl z J k I N) (hIV : IV J z N) : MetI l yX6_come wsX6_come ({ frames := 3, cells := 0, slots := 0, locals := 67 }) kM cs D ad I sz [.ref (ad k), .int a, .int b, .int c0, .int d] (fun r u => Po z k (mZ_come J z N a b c0 d) (nZ_come J z N a b c0 d) (thZ_come J z N a b c0 d) (nI N) r u) 0 0 := by
  refine g_met (cc := cX6_come) (maxL := 6) (ret := (some .int)) (by decide) rfl (Nat.le_of_ble_eq_true rfl) ?_
  intro pg e s m args below meth c ls hx hb hr hml hts hown hlocks hsz hP hD hK hN hS hA hl
  have hown : s.vm.findClass RX6 = some m.cls := hown
  have hl : lv_has ls 6 [(0, .ref (ad k)), (1, .int a), (2, .int b), (3, .int c0), (4, .int d)] := hl
  have hN8 := hIV.1.2.1
  refine lv_aload_n hx hb dX6_come_0 rfl (lv_at hl 0 rfl) ?_
  refine lv_iconst (v := nI 0) hx hb dX6_come_1 (by decide) ?_
  refine g_put (κ := 10) (ci := 6) (v := nI 0) (ty := .int) (C := RX6) (T := TX6) (N := 8) hx hb hts hown hK hP hD hS (k := k) hk (by decide) rfl (fun _ h => List.mem_cons_of_mem _ (List.mem_append_right _ h)) tyX6 tyX6_ok nmX6 rfl 0 (by decide) (hts _ (List.mem_of_getElem? (i := 1) rfl)) (fun _ h9 => h9) rfl (by decide +kernel) rfl rfl (Nat.le_of_ble_eq_true rfl) rfl dX6_come_2 (fun u1 H locs hu1 hP hD hS => ?_)
  have hR1 : Rl z J k u1 N := by rw [hu1]; exact hRl.th _
  have hT1 : u1 k 0 = nI 0 := by rw [hu1]; exact wr_ss _ _ _ _
  skip
  refine lv_iload_n hx hb dX6_come_5 rfl (lv_at hl 1 rfl) ?_
  refine lv_iload_n hx hb dX6_come_6 rfl (lv_at hl 2 rfl) ?_
  refine g_callF (F := f_X6_isCell a b) hD hS hA (va_runS (As := [.int a, .int b]) (rest := []) ⟨hx, hb, hml, hown, hts⟩ (c_X6_isCell l D cs ad u1 H.size a b) (va_cwS 2 hts gX6_come_X6_isCell rfl rfl rfl (by decide +kernel) ⟨Nat.le_of_ble_eq_true rfl, Nat.le_of_ble_eq_true rfl⟩) (g_preS hP hD hK hN) rfl rfl hl.1 rfl (lv_room (Nat.le_of_ble_eq_true rfl)) dX6_come_7 ⟨Nat.le_of_ble_eq_true rfl, Nat.le_of_ble_eq_true rfl⟩) (fun H locs hP hD hS => ?_)
  refine lv_if_ne (tgt := 19) hx hb dX6_come_10 (by decide) (fun c_2 => ?_) (fun c_2 => ?_)
  · skip
    refine lv_iload_n hx hb dX6_come_19 rfl (lv_at hl 3 rfl) ?_
    refine lv_iconst (v := nI 0) hx hb dX6_come_20 (by decide) ?_
    refine lv_bipush (v := nI 20) hx hb dX6_come_21 (by decide) ?_
    refine g_callF (F := f_X6_isIn c0 (nI 0) (nI 20)) hD hS hA (va_runS (As := [.int c0, .int (nI 0), .int (nI 20)]) (rest := []) ⟨hx, hb, hml, hown, hts⟩ (c_X6_isIn l D cs ad u1 H.size c0 (nI 0) (nI 20)) (va_cwS 3 hts gX6_come_X6_isIn rfl rfl rfl (by decide +kernel) ⟨Nat.le_of_ble_eq_true rfl, Nat.le_of_ble_eq_true rfl⟩) (g_preS hP hD hK hN) rfl rfl hl.1 rfl (lv_room (Nat.le_of_ble_eq_true rfl)) dX6_come_23 ⟨Nat.le_of_ble_eq_true rfl, Nat.le_of_ble_eq_true rfl⟩) (fun H locs hP hD hS => ?_)
    refine lv_if_eq (tgt := 40) hx hb dX6_come_26 (by decide) (fun c_3 => ?_) (fun c_3 => ?_)
    · skip
      refine lv_aload_n hx hb dX6_come_40 rfl (lv_at hl 0 rfl) ?_
      refine lv_iconst (v := nI 2) hx hb dX6_come_41 (by decide) ?_
      refine g_callFM (F := f_X6_fail u1 k (nI 2)) (M := m_X6_fail u1 k (nI 2)) hD hS hA (va_runV (As := [.int (nI 2)]) (rest := []) ⟨hx, hb, hml, hown, hts⟩ (c_X6_fail l D cs ad u1 H.size k hk (nI 2)) (cwV 1 hts gX6_come_X6_fail rfl rfl rfl (by decide +kernel) ⟨Nat.le_of_ble_eq_true rfl, Nat.le_of_ble_eq_true rfl⟩) (g_preV hP hD hK hN (k := k) hk (by decide) rfl rfl rfl rfl) rfl rfl hl.1 rfl (lv_room (Nat.le_of_ble_eq_true rfl)) dX6_come_42 ⟨Nat.le_of_ble_eq_true rfl, Nat.le_of_ble_eq_true rfl⟩) (fun u4 H locs hu4 hP hD hS => ?_)
      exact g_iret (v := f_X6_fail u1 k (nI 2)) hx hb hr hlocks rfl hP hD hS (by rw [show (mZ_come J z N a b c0 d) = J from (by simp only [mZ_come]; rw [if_neg (by rw [show thZ_come J z N a b c0 d = 2 from (by simp only [thZ_come]; rw [if_pos (cell_1 c_2)]; exact rng_0 (lo := nI 0) c_3)]; decide)]), show (nZ_come J z N a b c0 d) = N from (by simp only [nZ_come]; rw [if_neg (by rw [show thZ_come J z N a b c0 d = 2 from (by simp only [thZ_come]; rw [if_pos (cell_1 c_2)]; exact rng_0 (lo := nI 0) c_3)]; decide)])]; exact Po.fail hR1 hu4 (by simp only [thZ_come]; rw [if_pos (cell_1 c_2)]; exact rng_0 (lo := nI 0) c_3) (by decide)) dX6_come_45
    · skip
      refine lv_iload hx hb dX6_come_29 (lv_at hl 4 rfl) ?_
      refine lv_iconst (v := nI 0) hx hb dX6_come_31 (by decide) ?_
      refine lv_bipush (v := nI 9) hx hb dX6_come_32 (by decide) ?_
      refine g_callF (F := f_X6_isIn d (nI 0) (nI 9)) hD hS hA (va_runS (As := [.int d, .int (nI 0), .int (nI 9)]) (rest := []) ⟨hx, hb, hml, hown, hts⟩ (c_X6_isIn l D cs ad u1 H.size d (nI 0) (nI 9)) (va_cwS 3 hts gX6_come_X6_isIn rfl rfl rfl (by decide +kernel) ⟨Nat.le_of_ble_eq_true rfl, Nat.le_of_ble_eq_true rfl⟩) (g_preS hP hD hK hN) rfl rfl hl.1 rfl (lv_room (Nat.le_of_ble_eq_true rfl)) dX6_come_34 ⟨Nat.le_of_ble_eq_true rfl, Nat.le_of_ble_eq_true rfl⟩) (fun H locs hP hD hS => ?_)
      refine lv_if_ne (tgt := 46) hx hb dX6_come_37 (by decide) (fun c_5 => ?_) (fun c_5 => ?_)
      · skip
        refine lv_iload_n hx hb dX6_come_46 rfl (lv_at hl 1 rfl) ?_
        refine lv_bipush (v := nI 16) hx hb dX6_come_47 (by decide) ?_
        refine lv_iload_n hx hb dX6_come_49 rfl (lv_at hl 2 rfl) ?_
        refine lv_imul hx hb dX6_come_50 ?_
        refine lv_iadd hx hb dX6_come_51 ?_
        have h256 := pl_256 (cell_1 c_2)
        refine lv_topi (fun y9 ey9 => ?_)
        obtain rfl := ey9.trans (pl_x (cell_1 c_2))
        refine lv_istore (lv' := [(5, .int (nI (pl a b))), (0, .ref (ad k)), (1, .int a), (2, .int b), (3, .int c0), (4, .int d)]) hx hb dX6_come_52 hl (by decide) rfl (fun ls hl => ?_)
        refine lv_aload_n hx hb dX6_come_54 rfl (lv_at hl 1 rfl) ?_
        refine g_get (κ := 10) (ci := 6) (v := .ref (ad (k + 1))) (C := RX6) (T := TX6) (N := 8) hx hb hts hown hK hP (k := k) hk (by decide) rfl (fun _ h => List.mem_cons_of_mem _ (List.mem_append_right _ h)) rfl 1 (by decide) (hts _ (List.mem_of_getElem? (i := 2) rfl)) (fun _ h9 => h9) rfl dX6_come_55 ?_
        refine lv_iload hx hb dX6_come_58 (lv_at hl 0 rfl) ?_
        refine g_ialdn (n := 256) (i := (pl a b)) hx hb hK hP (k := (k + 1)) (kd_10_1 hk) (by decide) rfl (by omega) (by decide) dX6_come_60 ?_
        rw [show u1 (k + 1) (pl a b) = J (z + 1 + 1) (pl a b) from (hR1.c1 (by omega))]
        refine lv_bipush (v := nI 10) hx hb dX6_come_61 (by decide) ?_
        refine lv_icmp_eq (tgt := 85) hx hb dX6_come_63 (by decide) (fun c_6 => ?_) (fun c_6 => ?_)
        · skip
          refine lv_aload_n hx hb dX6_come_85 rfl (lv_at hl 1 rfl) ?_
          refine lv_iconst (v := nI 3) hx hb dX6_come_86 (by decide) ?_
          refine g_callFM (F := f_X6_fail u1 k (nI 3)) (M := m_X6_fail u1 k (nI 3)) hD hS hA (va_runV (As := [.int (nI 3)]) (rest := []) ⟨hx, hb, hml, hown, hts⟩ (c_X6_fail l D cs ad u1 H.size k hk (nI 3)) (cwV 1 hts gX6_come_X6_fail rfl rfl rfl (by decide +kernel) ⟨Nat.le_of_ble_eq_true rfl, Nat.le_of_ble_eq_true rfl⟩) (g_preV hP hD hK hN (k := k) hk (by decide) rfl rfl rfl rfl) rfl rfl hl.1 rfl (lv_room (Nat.le_of_ble_eq_true rfl)) dX6_come_87 ⟨Nat.le_of_ble_eq_true rfl, Nat.le_of_ble_eq_true rfl⟩) (fun u7 H locs hu7 hP hD hS => ?_)
          exact g_iret (v := f_X6_fail u1 k (nI 3)) hx hb hr hlocks rfl hP hD hS (by rw [show (mZ_come J z N a b c0 d) = J from (by simp only [mZ_come]; rw [if_neg (by rw [show thZ_come J z N a b c0 d = 3 from (by simp only [thZ_come]; rw [if_pos (cell_1 c_2)]; refine (rng_1 (lo := nI 0) c_3).trans ?_; refine (rng_1 (lo := nI 0) c_5).trans ?_; rw [sort_in h256]; rw [if_pos c_6])]; decide)]), show (nZ_come J z N a b c0 d) = N from (by simp only [nZ_come]; rw [if_neg (by rw [show thZ_come J z N a b c0 d = 3 from (by simp only [thZ_come]; rw [if_pos (cell_1 c_2)]; refine (rng_1 (lo := nI 0) c_3).trans ?_; refine (rng_1 (lo := nI 0) c_5).trans ?_; rw [sort_in h256]; rw [if_pos c_6])]; decide)])]; exact Po.fail hR1 hu7 (by simp only [thZ_come]; rw [if_pos (cell_1 c_2)]; refine (rng_1 (lo := nI 0) c_3).trans ?_; refine (rng_1 (lo := nI 0) c_5).trans ?_; rw [sort_in h256]; rw [if_pos c_6]) (by decide)) dX6_come_90
        · skip
          refine lv_aload_n hx hb dX6_come_66 rfl (lv_at hl 1 rfl) ?_
          refine lv_iload hx hb dX6_come_67 (lv_at hl 0 rfl) ?_
          refine lv_iconst (v := nI 1) hx hb dX6_come_69 (by decide) ?_
          refine g_callF (F := pplF J z N (pl a b) (nI 1)) hD hS hA (va_runV (As := [.int (nI (pl a b)), .int (nI 1)]) (rest := []) ⟨hx, hb, hml, hown, hts⟩ (c_X6_peopleAt l D cs ad u1 H.size k hk (pl a b) (by omega) (nI 1) (by decide) z J N hR1 hIV) (cwV 2 hts gX6_come_X6_peopleAt rfl rfl rfl (by decide +kernel) ⟨Nat.le_of_ble_eq_true rfl, Nat.le_of_ble_eq_true rfl⟩) (g_preV hP hD hK hN (k := k) hk (by decide) rfl rfl rfl rfl) rfl rfl hl.1 rfl (lv_room (Nat.le_of_ble_eq_true rfl)) dX6_come_70 ⟨Nat.le_of_ble_eq_true rfl, Nat.le_of_ble_eq_true rfl⟩) (fun H locs hP hD hS => ?_)
          refine lv_if_gt (tgt := 85) hx hb dX6_come_73 (by decide) (fun c_8 => ?_) (fun c_8 => ?_)
          · skip
            refine lv_aload_n hx hb dX6_come_85 rfl (lv_at hl 1 rfl) ?_
            refine lv_iconst (v := nI 3) hx hb dX6_come_86 (by decide) ?_
            refine g_callFM (F := f_X6_fail u1 k (nI 3)) (M := m_X6_fail u1 k (nI 3)) hD hS hA (va_runV (As := [.int (nI 3)]) (rest := []) ⟨hx, hb, hml, hown, hts⟩ (c_X6_fail l D cs ad u1 H.size k hk (nI 3)) (cwV 1 hts gX6_come_X6_fail rfl rfl rfl (by decide +kernel) ⟨Nat.le_of_ble_eq_true rfl, Nat.le_of_ble_eq_true rfl⟩) (g_preV hP hD hK hN (k := k) hk (by decide) rfl rfl rfl rfl) rfl rfl hl.1 rfl (lv_room (Nat.le_of_ble_eq_true rfl)) dX6_come_87 ⟨Nat.le_of_ble_eq_true rfl, Nat.le_of_ble_eq_true rfl⟩) (fun u9 H locs hu9 hP hD hS => ?_)
            exact g_iret (v := f_X6_fail u1 k (nI 3)) hx hb hr hlocks rfl hP hD hS (by rw [show (mZ_come J z N a b c0 d) = J from (by simp only [mZ_come]; rw [if_neg (by rw [show thZ_come J z N a b c0 d = 3 from (by simp only [thZ_come]; rw [if_pos (cell_1 c_2)]; refine (rng_1 (lo := nI 0) c_3).trans ?_; refine (rng_1 (lo := nI 0) c_5).trans ?_; rw [sort_in h256]; rw [if_neg c_6, if_neg (by rw [← ppl1]; exact Int32.not_le.mpr c_8)])]; decide)]), show (nZ_come J z N a b c0 d) = N from (by simp only [nZ_come]; rw [if_neg (by rw [show thZ_come J z N a b c0 d = 3 from (by simp only [thZ_come]; rw [if_pos (cell_1 c_2)]; refine (rng_1 (lo := nI 0) c_3).trans ?_; refine (rng_1 (lo := nI 0) c_5).trans ?_; rw [sort_in h256]; rw [if_neg c_6, if_neg (by rw [← ppl1]; exact Int32.not_le.mpr c_8)])]; decide)])]; exact Po.fail hR1 hu9 (by simp only [thZ_come]; rw [if_pos (cell_1 c_2)]; refine (rng_1 (lo := nI 0) c_3).trans ?_; refine (rng_1 (lo := nI 0) c_5).trans ?_; rw [sort_in h256]; rw [if_neg c_6, if_neg (by rw [← ppl1]; exact Int32.not_le.mpr c_8)]) (by decide)) dX6_come_90
          · skip
            refine lv_aload_n hx hb dX6_come_76 rfl (lv_at hl 1 rfl) ?_
            refine g_get (κ := 10) (ci := 6) (v := .int (u1 k 6)) (C := RX6) (T := TX6) (N := 8) hx hb hts hown hK hP (k := k) hk (by decide) rfl (fun _ h => List.mem_cons_of_mem _ (List.mem_append_right _ h)) rfl 6 (by decide) (hts _ (List.mem_of_getElem? (i := 3) rfl)) (fun _ h9 => h9) rfl dX6_come_77 ?_
            rw [show u1 k 6 = nI N from hR1.n]
            refine lv_bipush (v := nI 8) hx hb dX6_come_80 (by decide) ?_
            refine lv_icmp_ne (tgt := 91) hx hb dX6_come_82 (by decide) (fun c_10 => ?_) (fun c_10 => ?_)
            · skip
              have nc_10 : ¬ N = 8 := fun z9_ => c_10 ((nI_eq (a := N) (b := 8) (by omega) (by omega)).mpr z9_)
              refine lv_aload_n hx hb dX6_come_91 rfl (lv_at hl 1 rfl) ?_
              refine lv_iload hx hb dX6_come_92 (lv_at hl 0 rfl) ?_
              refine g_callF (F := f_X6_isOpen u1 k (pl a b)) hD hS hA (va_runV (As := [.int (nI (pl a b))]) (rest := []) ⟨hx, hb, hml, hown, hts⟩ (c_X6_isOpen l D cs ad u1 H.size k hk (pl a b) (by omega)) (cwV 1 hts gX6_come_X6_isOpen rfl rfl rfl (by decide +kernel) ⟨Nat.le_of_ble_eq_true rfl, Nat.le_of_ble_eq_true rfl⟩) (g_preV hP hD hK hN (k := k) hk (by decide) rfl rfl rfl rfl) rfl rfl hl.1 rfl (lv_room (Nat.le_of_ble_eq_true rfl)) dX6_come_94 ⟨Nat.le_of_ble_eq_true rfl, Nat.le_of_ble_eq_true rfl⟩) (fun H locs hP hD hS => ?_)
              refine lv_if_ne (tgt := 107) hx hb dX6_come_97 (by decide) (fun c_11 => ?_) (fun c_11 => ?_)
              · skip
                refine lv_aload_n hx hb dX6_come_107 rfl (lv_at hl 1 rfl) ?_
                refine lv_aload_n hx hb dX6_come_108 rfl (lv_at hl 1 rfl) ?_
                refine g_get (κ := 10) (ci := 6) (v := .int (u1 k 6)) (C := RX6) (T := TX6) (N := 8) hx hb hts hown hK hP (k := k) hk (by decide) rfl (fun _ h => List.mem_cons_of_mem _ (List.mem_append_right _ h)) rfl 6 (by decide) (hts _ (List.mem_of_getElem? (i := 3) rfl)) (fun _ h9 => h9) rfl dX6_come_109 ?_
                rw [show u1 k 6 = nI N from hR1.n]
                refine lv_iconst (v := nI 0) hx hb dX6_come_112 (by decide) ?_
                refine lv_iload hx hb dX6_come_113 (lv_at hl 0 rfl) ?_
                refine g_callM (M := wr u1 (k + 4) (31 * N + 0) (nI (pl a b))) hD hS hA (va_runV (As := [.int (nI N), .int (nI 0), .int (nI (pl a b))]) (rest := []) ⟨hx, hb, hml, hown, hts⟩ (c_X6_set l D cs ad u1 H.size k hk N (by omega) 0 (by omega) (nI (pl a b))) (cwV 3 hts gX6_come_X6_set rfl rfl rfl (by decide +kernel) ⟨Nat.le_of_ble_eq_true rfl, Nat.le_of_ble_eq_true rfl⟩) (g_preV hP hD hK hN (k := k) hk (by decide) rfl rfl rfl rfl) rfl rfl hl.1 rfl (lv_room (Nat.le_of_ble_eq_true rfl)) dX6_come_115 ⟨Nat.le_of_ble_eq_true rfl, Nat.le_of_ble_eq_true rfl⟩) (fun u12 H locs hu12 hP hD hS => ?_)
                refine lv_aload_n hx hb dX6_come_118 rfl (lv_at hl 1 rfl) ?_
                refine lv_aload_n hx hb dX6_come_119 rfl (lv_at hl 1 rfl) ?_
                refine g_get (κ := 10) (ci := 6) (v := .int (u12 k 6)) (C := RX6) (T := TX6) (N := 8) hx hb hts hown hK hP (k := k) hk (by decide) rfl (fun _ h => List.mem_cons_of_mem _ (List.mem_append_right _ h)) rfl 6 (by decide) (hts _ (List.mem_of_getElem? (i := 3) rfl)) (fun _ h9 => h9) rfl dX6_come_120 ?_
                rw [show u12 k 6 = nI N from (by rw [hu12]; rw [wr_n _ _ _ (by omega)]; exact hR1.n)]
                refine lv_iconst (v := nI 1) hx hb dX6_come_123 (by decide) ?_
                refine lv_iload_n hx hb dX6_come_124 rfl (lv_at hl 4 rfl) ?_
                refine g_callM (M := wr u12 (k + 4) (31 * N + 1) c0) hD hS hA (va_runV (As := [.int (nI N), .int (nI 1), .int c0]) (rest := []) ⟨hx, hb, hml, hown, hts⟩ (c_X6_set l D cs ad u12 H.size k hk N (by omega) 1 (by omega) c0) (cwV 3 hts gX6_come_X6_set rfl rfl rfl (by decide +kernel) ⟨Nat.le_of_ble_eq_true rfl, Nat.le_of_ble_eq_true rfl⟩) (g_preV hP hD hK hN (k := k) hk (by decide) rfl rfl rfl rfl) rfl rfl hl.1 rfl (lv_room (Nat.le_of_ble_eq_true rfl)) dX6_come_125 ⟨Nat.le_of_ble_eq_true rfl, Nat.le_of_ble_eq_true rfl⟩) (fun u13 H locs hu13 hP hD hS => ?_)
                refine lv_aload_n hx hb dX6_come_128 rfl (lv_at hl 1 rfl) ?_
                refine lv_aload_n hx hb dX6_come_129 rfl (lv_at hl 1 rfl) ?_
                refine g_get (κ := 10) (ci := 6) (v := .int (u13 k 6)) (C := RX6) (T := TX6) (N := 8) hx hb hts hown hK hP (k := k) hk (by decide) rfl (fun _ h => List.mem_cons_of_mem _ (List.mem_append_right _ h)) rfl 6 (by decide) (hts _ (List.mem_of_getElem? (i := 3) rfl)) (fun _ h9 => h9) rfl dX6_come_130 ?_
                rw [show u13 k 6 = nI N from (by rw [hu13]; rw [wr_n _ _ _ (by omega)]; rw [hu12]; rw [wr_n _ _ _ (by omega)]; exact hR1.n)]
                refine lv_iconst (v := nI 2) hx hb dX6_come_133 (by decide) ?_
                refine lv_iload hx hb dX6_come_134 (lv_at hl 5 rfl) ?_
                refine g_callM (M := wr u13 (k + 4) (31 * N + 2) d) hD hS hA (va_runV (As := [.int (nI N), .int (nI 2), .int d]) (rest := []) ⟨hx, hb, hml, hown, hts⟩ (c_X6_set l D cs ad u13 H.size k hk N (by omega) 2 (by omega) d) (cwV 3 hts gX6_come_X6_set rfl rfl rfl (by decide +kernel) ⟨Nat.le_of_ble_eq_true rfl, Nat.le_of_ble_eq_true rfl⟩) (g_preV hP hD hK hN (k := k) hk (by decide) rfl rfl rfl rfl) rfl rfl hl.1 rfl (lv_room (Nat.le_of_ble_eq_true rfl)) dX6_come_136 ⟨Nat.le_of_ble_eq_true rfl, Nat.le_of_ble_eq_true rfl⟩) (fun u14 H locs hu14 hP hD hS => ?_)
                refine lv_aload_n hx hb dX6_come_139 rfl (lv_at hl 1 rfl) ?_
                refine lv_dup hx hb dX6_come_140 rfl ?_
                refine g_get (κ := 10) (ci := 6) (v := .int (u14 k 6)) (C := RX6) (T := TX6) (N := 8) hx hb hts hown hK hP (k := k) hk (by decide) rfl (fun _ h => List.mem_cons_of_mem _ (List.mem_append_right _ h)) rfl 6 (by decide) (hts _ (List.mem_of_getElem? (i := 3) rfl)) (fun _ h9 => h9) rfl dX6_come_141 ?_
                rw [show u14 k 6 = nI N from (by rw [hu14]; rw [wr_n _ _ _ (by omega)]; rw [hu13]; rw [wr_n _ _ _ (by omega)]; rw [hu12]; rw [wr_n _ _ _ (by omega)]; exact hR1.n)]
                refine lv_iconst (v := nI 1) hx hb dX6_come_144 (by decide) ?_
                refine lv_iadd hx hb dX6_come_145 ?_
                rw [nI_add N 1]
                refine g_put (κ := 10) (ci := 6) (v := nI (N + 1)) (ty := .int) (C := RX6) (T := TX6) (N := 8) hx hb hts hown hK hP hD hS (k := k) hk (by decide) rfl (fun _ h => List.mem_cons_of_mem _ (List.mem_append_right _ h)) tyX6 tyX6_ok nmX6 rfl 6 (by decide) (hts _ (List.mem_of_getElem? (i := 3) rfl)) (fun _ h9 => h9) rfl (by decide +kernel) rfl rfl (Nat.le_of_ble_eq_true rfl) rfl dX6_come_146 (fun u15 H locs hu15 hP hD hS => ?_)
                refine lv_aload_n hx hb dX6_come_149 rfl (lv_at hl 1 rfl) ?_
                refine g_get (κ := 10) (ci := 6) (v := .int (u15 k 6)) (C := RX6) (T := TX6) (N := 8) hx hb hts hown hK hP (k := k) hk (by decide) rfl (fun _ h => List.mem_cons_of_mem _ (List.mem_append_right _ h)) rfl 6 (by decide) (hts _ (List.mem_of_getElem? (i := 3) rfl)) (fun _ h9 => h9) rfl dX6_come_150 ?_
                rw [show u15 k 6 = nI (N + 1) from (by rw [hu15, wr_ss])]
                refine lv_iconst (v := nI 1) hx hb dX6_come_153 (by decide) ?_
                refine lv_isub hx hb dX6_come_154 ?_
                rw [pk_sub (a := (N + 1)) (b := 1) (by omega)]
                exact g_iret (v := nI ((N + 1) - 1)) hx hb hr hlocks rfl hP hD hS (have e9 : thZ_come J z N a b c0 d = 0 := (by simp only [thZ_come]; rw [if_pos (cell_1 c_2)]; refine (rng_1 (lo := nI 0) c_3).trans ?_; refine (rng_1 (lo := nI 0) c_5).trans ?_; rw [sort_in h256, if_neg c_6, if_pos (by rw [← ppl1]; exact Int32.not_lt.mp c_8), if_pos ((nI_ltI (by omega) (by decide)).mpr (by have := nc_10; omega))]); have hn8 : N < 8 := (by have := nc_10; omega); Po.ok (by simp only [mZ_come, nZ_come, m_X0_welcome]; rw [if_pos e9, if_pos e9, if_pos ((nI_ltI (by omega) (by decide)).mpr hn8), if_neg (show ¬ f_X3_isOpen J (z + 1) (nI (pl a b)) = 0 from by rw [open_in h256, decide_eq_true (p := J (z + 1 + 1) (pl a b) = 0) (hR1.open1 h256 c_11)]; decide), hu15, hu14, hu13, hu12]; exact ((((hR1).wt (i := N) (f := 0) (nI (pl a b)) hn8 (by decide)).wt (i := N) (f := 1) c0 hn8 (by decide)).wt (i := N) (f := 2) d hn8 (by decide)).more (nI (N + 1)) (by rw [wr_sn _ _ _ (by decide), wr_sn _ _ _ (by decide), wr_sn _ _ _ (by decide)]; exact (hIV.2.2.2.2.2.1 N (Nat.le_refl _) (show N < 8 from by have := nc_10; omega)).2.2.1)) (by rw [hu15, hu14, hu13, hu12, wr_sn _ _ _ (by decide), wr_n _ _ _ (by omega), wr_n _ _ _ (by omega), wr_n _ _ _ (by omega)]; exact hT1) e9 rfl) dX6_come_155
              · skip
                refine lv_aload_n hx hb dX6_come_100 rfl (lv_at hl 1 rfl) ?_
                refine lv_iload hx hb dX6_come_101 (lv_at hl 0 rfl) ?_
                refine lv_iconst (v := nI 0) hx hb dX6_come_103 (by decide) ?_
                refine g_callM (M := m_X6_lay u1 k (pl a b) (nI 0)) hD hS hA (va_runV (As := [.int (nI (pl a b)), .int (nI 0)]) (rest := []) ⟨hx, hb, hml, hown, hts⟩ (c_X6_lay l D cs ad u1 H.size k hk (pl a b) (by omega) (nI 0)) (cwV 2 hts gX6_come_X6_lay rfl rfl rfl (by decide +kernel) ⟨Nat.le_of_ble_eq_true rfl, Nat.le_of_ble_eq_true rfl⟩) (g_preV hP hD hK hN (k := k) hk (by decide) rfl rfl rfl rfl) rfl rfl hl.1 rfl (lv_room (Nat.le_of_ble_eq_true rfl)) dX6_come_104 ⟨Nat.le_of_ble_eq_true rfl, Nat.le_of_ble_eq_true rfl⟩) (fun u16 H locs hu16 hP hD hS => ?_)
                refine lv_aload_n hx hb dX6_come_107 rfl (lv_at hl 1 rfl) ?_
                refine lv_aload_n hx hb dX6_come_108 rfl (lv_at hl 1 rfl) ?_
                refine g_get (κ := 10) (ci := 6) (v := .int (u16 k 6)) (C := RX6) (T := TX6) (N := 8) hx hb hts hown hK hP (k := k) hk (by decide) rfl (fun _ h => List.mem_cons_of_mem _ (List.mem_append_right _ h)) rfl 6 (by decide) (hts _ (List.mem_of_getElem? (i := 3) rfl)) (fun _ h9 => h9) rfl dX6_come_109 ?_
                rw [show u16 k 6 = nI N from (by rw [hu16]; simp only [m_X6_lay]; rw [wr_n _ _ _ (by omega), wr_n _ _ _ (by omega), wr_n _ _ _ (by omega)]; exact hR1.n)]
                refine lv_iconst (v := nI 0) hx hb dX6_come_112 (by decide) ?_
                refine lv_iload hx hb dX6_come_113 (lv_at hl 0 rfl) ?_
                refine g_callM (M := wr u16 (k + 4) (31 * N + 0) (nI (pl a b))) hD hS hA (va_runV (As := [.int (nI N), .int (nI 0), .int (nI (pl a b))]) (rest := []) ⟨hx, hb, hml, hown, hts⟩ (c_X6_set l D cs ad u16 H.size k hk N (by omega) 0 (by omega) (nI (pl a b))) (cwV 3 hts gX6_come_X6_set rfl rfl rfl (by decide +kernel) ⟨Nat.le_of_ble_eq_true rfl, Nat.le_of_ble_eq_true rfl⟩) (g_preV hP hD hK hN (k := k) hk (by decide) rfl rfl rfl rfl) rfl rfl hl.1 rfl (lv_room (Nat.le_of_ble_eq_true rfl)) dX6_come_115 ⟨Nat.le_of_ble_eq_true rfl, Nat.le_of_ble_eq_true rfl⟩) (fun u17 H locs hu17 hP hD hS => ?_)
                refine lv_aload_n hx hb dX6_come_118 rfl (lv_at hl 1 rfl) ?_
                refine lv_aload_n hx hb dX6_come_119 rfl (lv_at hl 1 rfl) ?_
                refine g_get (κ := 10) (ci := 6) (v := .int (u17 k 6)) (C := RX6) (T := TX6) (N := 8) hx hb hts hown hK hP (k := k) hk (by decide) rfl (fun _ h => List.mem_cons_of_mem _ (List.mem_append_right _ h)) rfl 6 (by decide) (hts _ (List.mem_of_getElem? (i := 3) rfl)) (fun _ h9 => h9) rfl dX6_come_120 ?_
                rw [show u17 k 6 = nI N from (by rw [hu17]; rw [wr_n _ _ _ (by omega)]; rw [hu16]; simp only [m_X6_lay]; rw [wr_n _ _ _ (by omega), wr_n _ _ _ (by omega), wr_n _ _ _ (by omega)]; exact hR1.n)]
                refine lv_iconst (v := nI 1) hx hb dX6_come_123 (by decide) ?_
                refine lv_iload_n hx hb dX6_come_124 rfl (lv_at hl 4 rfl) ?_
                refine g_callM (M := wr u17 (k + 4) (31 * N + 1) c0) hD hS hA (va_runV (As := [.int (nI N), .int (nI 1), .int c0]) (rest := []) ⟨hx, hb, hml, hown, hts⟩ (c_X6_set l D cs ad u17 H.size k hk N (by omega) 1 (by omega) c0) (cwV 3 hts gX6_come_X6_set rfl rfl rfl (by decide +kernel) ⟨Nat.le_of_ble_eq_true rfl, Nat.le_of_ble_eq_true rfl⟩) (g_preV hP hD hK hN (k := k) hk (by decide) rfl rfl rfl rfl) rfl rfl hl.1 rfl (lv_room (Nat.le_of_ble_eq_true rfl)) dX6_come_125 ⟨Nat.le_of_ble_eq_true rfl, Nat.le_of_ble_eq_true rfl⟩) (fun u18 H locs hu18 hP hD hS => ?_)
                refine lv_aload_n hx hb dX6_come_128 rfl (lv_at hl 1 rfl) ?_
                refine lv_aload_n hx hb dX6_come_129 rfl (lv_at hl 1 rfl) ?_
                refine g_get (κ := 10) (ci := 6) (v := .int (u18 k 6)) (C := RX6) (T := TX6) (N := 8) hx hb hts hown hK hP (k := k) hk (by decide) rfl (fun _ h => List.mem_cons_of_mem _ (List.mem_append_right _ h)) rfl 6 (by decide) (hts _ (List.mem_of_getElem? (i := 3) rfl)) (fun _ h9 => h9) rfl dX6_come_130 ?_
                rw [show u18 k 6 = nI N from (by rw [hu18]; rw [wr_n _ _ _ (by omega)]; rw [hu17]; rw [wr_n _ _ _ (by omega)]; rw [hu16]; simp only [m_X6_lay]; rw [wr_n _ _ _ (by omega), wr_n _ _ _ (by omega), wr_n _ _ _ (by omega)]; exact hR1.n)]
                refine lv_iconst (v := nI 2) hx hb dX6_come_133 (by decide) ?_
                refine lv_iload hx hb dX6_come_134 (lv_at hl 5 rfl) ?_
                refine g_callM (M := wr u18 (k + 4) (31 * N + 2) d) hD hS hA (va_runV (As := [.int (nI N), .int (nI 2), .int d]) (rest := []) ⟨hx, hb, hml, hown, hts⟩ (c_X6_set l D cs ad u18 H.size k hk N (by omega) 2 (by omega) d) (cwV 3 hts gX6_come_X6_set rfl rfl rfl (by decide +kernel) ⟨Nat.le_of_ble_eq_true rfl, Nat.le_of_ble_eq_true rfl⟩) (g_preV hP hD hK hN (k := k) hk (by decide) rfl rfl rfl rfl) rfl rfl hl.1 rfl (lv_room (Nat.le_of_ble_eq_true rfl)) dX6_come_136 ⟨Nat.le_of_ble_eq_true rfl, Nat.le_of_ble_eq_true rfl⟩) (fun u19 H locs hu19 hP hD hS => ?_)
                refine lv_aload_n hx hb dX6_come_139 rfl (lv_at hl 1 rfl) ?_
                refine lv_dup hx hb dX6_come_140 rfl ?_
                refine g_get (κ := 10) (ci := 6) (v := .int (u19 k 6)) (C := RX6) (T := TX6) (N := 8) hx hb hts hown hK hP (k := k) hk (by decide) rfl (fun _ h => List.mem_cons_of_mem _ (List.mem_append_right _ h)) rfl 6 (by decide) (hts _ (List.mem_of_getElem? (i := 3) rfl)) (fun _ h9 => h9) rfl dX6_come_141 ?_
                rw [show u19 k 6 = nI N from (by rw [hu19]; rw [wr_n _ _ _ (by omega)]; rw [hu18]; rw [wr_n _ _ _ (by omega)]; rw [hu17]; rw [wr_n _ _ _ (by omega)]; rw [hu16]; simp only [m_X6_lay]; rw [wr_n _ _ _ (by omega), wr_n _ _ _ (by omega), wr_n _ _ _ (by omega)]; exact hR1.n)]
                refine lv_iconst (v := nI 1) hx hb dX6_come_144 (by decide) ?_
                refine lv_iadd hx hb dX6_come_145 ?_
                rw [nI_add N 1]
                refine g_put (κ := 10) (ci := 6) (v := nI (N + 1)) (ty := .int) (C := RX6) (T := TX6) (N := 8) hx hb hts hown hK hP hD hS (k := k) hk (by decide) rfl (fun _ h => List.mem_cons_of_mem _ (List.mem_append_right _ h)) tyX6 tyX6_ok nmX6 rfl 6 (by decide) (hts _ (List.mem_of_getElem? (i := 3) rfl)) (fun _ h9 => h9) rfl (by decide +kernel) rfl rfl (Nat.le_of_ble_eq_true rfl) rfl dX6_come_146 (fun u20 H locs hu20 hP hD hS => ?_)
                refine lv_aload_n hx hb dX6_come_149 rfl (lv_at hl 1 rfl) ?_
                refine g_get (κ := 10) (ci := 6) (v := .int (u20 k 6)) (C := RX6) (T := TX6) (N := 8) hx hb hts hown hK hP (k := k) hk (by decide) rfl (fun _ h => List.mem_cons_of_mem _ (List.mem_append_right _ h)) rfl 6 (by decide) (hts _ (List.mem_of_getElem? (i := 3) rfl)) (fun _ h9 => h9) rfl dX6_come_150 ?_
                rw [show u20 k 6 = nI (N + 1) from (by rw [hu20, wr_ss])]
                refine lv_iconst (v := nI 1) hx hb dX6_come_153 (by decide) ?_
                refine lv_isub hx hb dX6_come_154 ?_
                rw [pk_sub (a := (N + 1)) (b := 1) (by omega)]
                exact g_iret (v := nI ((N + 1) - 1)) hx hb hr hlocks rfl hP hD hS (have e9 : thZ_come J z N a b c0 d = 0 := (by simp only [thZ_come]; rw [if_pos (cell_1 c_2)]; refine (rng_1 (lo := nI 0) c_3).trans ?_; refine (rng_1 (lo := nI 0) c_5).trans ?_; rw [sort_in h256, if_neg c_6, if_pos (by rw [← ppl1]; exact Int32.not_lt.mp c_8), if_pos ((nI_ltI (by omega) (by decide)).mpr (by have := nc_10; omega))]); have hn8 : N < 8 := (by have := nc_10; omega); Po.ok (by simp only [mZ_come, nZ_come, m_X0_welcome]; rw [if_pos e9, if_pos e9, if_pos ((nI_ltI (by omega) (by decide)).mpr hn8), if_pos (show f_X3_isOpen J (z + 1) (nI (pl a b)) = 0 from by rw [open_in h256, decide_eq_false (p := J (z + 1 + 1) (pl a b) = 0) (hR1.open0 h256 c_11)]; rfl), hu20, hu19, hu18, hu17, hu16]; exact (((((hR1.lay h256 (nI 0))).wt (i := N) (f := 0) (nI (pl a b)) hn8 (by decide)).wt (i := N) (f := 1) c0 hn8 (by decide)).wt (i := N) (f := 2) d hn8 (by decide)).more (nI (N + 1)) (by rw [wr_sn _ _ _ (by decide), wr_sn _ _ _ (by decide), wr_sn _ _ _ (by decide), put_o (by omega)]; exact (hIV.2.2.2.2.2.1 N (Nat.le_refl _) (show N < 8 from by have := nc_10; omega)).2.2.1)) (by rw [hu20, hu19, hu18, hu17, hu16, wr_sn _ _ _ (by decide), wr_n _ _ _ (by omega), wr_n _ _ _ (by omega), wr_n _ _ _ (by omega)]; simp only [m_X6_lay]; rw [wr_n _ _ _ (by omega), wr_n _ _ _ (by omega), wr_n _ _ _ (by omega)]; exact hT1) e9 rfl) dX6_come_155
            · skip
              have nc_10 : N = 8 := (nI_eq (a := N) (b := 8) (by omega) (by omega)).mp c_10
              refine lv_aload_n hx hb dX6_come_85 rfl (lv_at hl 1 rfl) ?_
              refine lv_iconst (v := nI 3) hx hb dX6_come_86 (by decide) ?_
              refine g_callFM (F := f_X6_fail u1 k (nI 3)) (M := m_X6_fail u1 k (nI 3)) hD hS hA (va_runV (As := [.int (nI 3)]) (rest := []) ⟨hx, hb, hml, hown, hts⟩ (c_X6_fail l D cs ad u1 H.size k hk (nI 3)) (cwV 1 hts gX6_come_X6_fail rfl rfl rfl (by decide +kernel) ⟨Nat.le_of_ble_eq_true rfl, Nat.le_of_ble_eq_true rfl⟩) (g_preV hP hD hK hN (k := k) hk (by decide) rfl rfl rfl rfl) rfl rfl hl.1 rfl (lv_room (Nat.le_of_ble_eq_true rfl)) dX6_come_87 ⟨Nat.le_of_ble_eq_true rfl, Nat.le_of_ble_eq_true rfl⟩) (fun u21 H locs hu21 hP hD hS => ?_)
              exact g_iret (v := f_X6_fail u1 k (nI 3)) hx hb hr hlocks rfl hP hD hS (by rw [show (mZ_come J z N a b c0 d) = J from (by simp only [mZ_come]; rw [if_neg (by rw [show thZ_come J z N a b c0 d = 3 from (by simp only [thZ_come]; rw [if_pos (cell_1 c_2)]; refine (rng_1 (lo := nI 0) c_3).trans ?_; refine (rng_1 (lo := nI 0) c_5).trans ?_; rw [sort_in h256]; rw [if_neg c_6, if_pos (by rw [← ppl1]; exact Int32.not_lt.mp c_8), if_neg (fun y => absurd ((nI_ltI (by omega) (by decide)).mp y) (by have := nc_10; omega))])]; decide)]), show (nZ_come J z N a b c0 d) = N from (by simp only [nZ_come]; rw [if_neg (by rw [show thZ_come J z N a b c0 d = 3 from (by simp only [thZ_come]; rw [if_pos (cell_1 c_2)]; refine (rng_1 (lo := nI 0) c_3).trans ?_; refine (rng_1 (lo := nI 0) c_5).trans ?_; rw [sort_in h256]; rw [if_neg c_6, if_pos (by rw [← ppl1]; exact Int32.not_lt.mp c_8), if_neg (fun y => absurd ((nI_ltI (by omega) (by decide)).mp y) (by have := nc_10; omega))])]; decide)])]; exact Po.fail hR1 hu21 (by simp only [thZ_come]; rw [if_pos (cell_1 c_2)]; refine (rng_1 (lo := nI 0) c_3).trans ?_; refine (rng_1 (lo := nI 0) c_5).trans ?_; rw [sort_in h256]; rw [if_neg c_6, if_pos (by rw [← ppl1]; exact Int32.not_lt.mp c_8), if_neg (fun y => absurd ((nI_ltI (by omega) (by decide)).mp y) (by have := nc_10; omega))]) (by decide)) dX6_come_90
      · skip
        refine lv_aload_n hx hb dX6_come_40 rfl (lv_at hl 0 rfl) ?_
        refine lv_iconst (v := nI 2) hx hb dX6_come_41 (by decide) ?_
        refine g_callFM (F := f_X6_fail u1 k (nI 2)) (M := m_X6_fail u1 k (nI 2)) hD hS hA (va_runV (As := [.int (nI 2)]) (rest := []) ⟨hx, hb, hml, hown, hts⟩ (c_X6_fail l D cs ad u1 H.size k hk (nI 2)) (cwV 1 hts gX6_come_X6_fail rfl rfl rfl (by decide +kernel) ⟨Nat.le_of_ble_eq_true rfl, Nat.le_of_ble_eq_true rfl⟩) (g_preV hP hD hK hN (k := k) hk (by decide) rfl rfl rfl rfl) rfl rfl hl.1 rfl (lv_room (Nat.le_of_ble_eq_true rfl)) dX6_come_42 ⟨Nat.le_of_ble_eq_true rfl, Nat.le_of_ble_eq_true rfl⟩) (fun u22 H locs hu22 hP hD hS => ?_)
        exact g_iret (v := f_X6_fail u1 k (nI 2)) hx hb hr hlocks rfl hP hD hS (by rw [show (mZ_come J z N a b c0 d) = J from (by simp only [mZ_come]; rw [if_neg (by rw [show thZ_come J z N a b c0 d = 2 from (by simp only [thZ_come]; rw [if_pos (cell_1 c_2)]; refine (rng_1 (lo := nI 0) c_3).trans ?_; exact rng_0 (lo := nI 0) c_5)]; decide)]), show (nZ_come J z N a b c0 d) = N from (by simp only [nZ_come]; rw [if_neg (by rw [show thZ_come J z N a b c0 d = 2 from (by simp only [thZ_come]; rw [if_pos (cell_1 c_2)]; refine (rng_1 (lo := nI 0) c_3).trans ?_; exact rng_0 (lo := nI 0) c_5)]; decide)])]; exact Po.fail hR1 hu22 (by simp only [thZ_come]; rw [if_pos (cell_1 c_2)]; refine (rng_1 (lo := nI 0) c_3).trans ?_; exact rng_0 (lo := nI 0) c_5) (by decide)) dX6_come_45
  · skip
    refine lv_aload_n hx hb dX6_come_13 rfl (lv_at hl 0 rfl) ?_
    refine lv_iconst (v := nI 1) hx hb dX6_come_14 (by decide) ?_
    refine g_callFM (F := f_X6_fail u1 k (nI 1)) (M := m_X6_fail u1 k (nI 1)) hD hS hA (va_runV (As := [.int (nI 1)]) (rest := []) ⟨hx, hb, hml, hown, hts⟩ (c_X6_fail l D cs ad u1 H.size k hk (nI 1)) (cwV 1 hts gX6_come_X6_fail rfl rfl rfl (by decide +kernel) ⟨Nat.le_of_ble_eq_true rfl, Nat.le_of_ble_eq_true rfl⟩) (g_preV hP hD hK hN (k := k) hk (by decide) rfl rfl rfl rfl) rfl rfl hl.1 rfl (lv_room (Nat.le_of_ble_eq_true rfl)) dX6_come_15 ⟨Nat.le_of_ble_eq_true rfl, Nat.le_of_ble_eq_true rfl⟩) (fun u23 H locs hu23 hP hD hS => ?_)
    exact g_iret (v := f_X6_fail u1 k (nI 1)) hx hb hr hlocks rfl hP hD hS (by rw [show (mZ_come J z N a b c0 d) = J from (by simp only [mZ_come]; rw [if_neg (by rw [show thZ_come J z N a b c0 d = 1 from (by simp only [thZ_come]; rw [cell_0 c_2, if_neg (by decide)])]; decide)]), show (nZ_come J z N a b c0 d) = N from (by simp only [nZ_come]; rw [if_neg (by rw [show thZ_come J z N a b c0 d = 1 from (by simp only [thZ_come]; rw [cell_0 c_2, if_neg (by decide)])]; decide)])]; exact Po.fail hR1 hu23 (by simp only [thZ_come]; rw [cell_0 c_2, if_neg (by decide)]) (by decide)) dX6_come_18

set_option maxHeartbeats 4000000 in
set_option maxRecDepth 100000 in
theorem c_X6_order (l : Launch) (D : va_G) (cs : Nat → ClassId) (ad : Nat → Nat) (I : Mm) (sz : Nat) (k : Nat) (hk : kM.getD k 0 = 10) (a : Int32) (b : Int32) (c0 : Int32) (z : Nat) (J : Mm) (N : Nat) (hRl : Rl z J k I N) (hIV : IV J z N) : MetI l yX6_order wsX6_order ({ frames := 2, cells := 0, slots := 0, locals := 43 }) kM cs D ad I sz [.ref (ad k), .int a, .int b, .int c0] (fun r u => Po z k (mZ_order J z N a b c0) N (thZ_order J z N a b c0) (nI ((J (z + 8 + (1 + a.toNatClampNeg)) 7).toNatClampNeg + c0.toNatClampNeg)) r u) 0 0 := by
  refine g_met (cc := cX6_order) (maxL := 5) (ret := (some .int)) (by decide) rfl (Nat.le_of_ble_eq_true rfl) ?_
  intro pg e s m args below meth c ls hx hb hr hml hts hown hlocks hsz hP hD hK hN hS hA hl
  have hown : s.vm.findClass RX6 = some m.cls := hown
  have hl : lv_has ls 5 [(0, .ref (ad k)), (1, .int a), (2, .int b), (3, .int c0)] := hl
  have hN8 := hIV.1.2.1
  refine lv_aload_n hx hb dX6_order_0 rfl (lv_at hl 0 rfl) ?_
  refine lv_iconst (v := nI 0) hx hb dX6_order_1 (by decide) ?_
  refine g_put (κ := 10) (ci := 6) (v := nI 0) (ty := .int) (C := RX6) (T := TX6) (N := 8) hx hb hts hown hK hP hD hS (k := k) hk (by decide) rfl (fun _ h => List.mem_cons_of_mem _ (List.mem_append_right _ h)) tyX6 tyX6_ok nmX6 rfl 0 (by decide) (hts _ (List.mem_of_getElem? (i := 1) rfl)) (fun _ h9 => h9) rfl (by decide +kernel) rfl rfl (Nat.le_of_ble_eq_true rfl) rfl dX6_order_2 (fun u1 H locs hu1 hP hD hS => ?_)
  have hR1 : Rl z J k u1 N := by rw [hu1]; exact hRl.th _
  have hT1 : u1 k 0 = nI 0 := by rw [hu1]; exact wr_ss _ _ _ _
  skip
  refine lv_aload_n hx hb dX6_order_5 rfl (lv_at hl 0 rfl) ?_
  refine lv_iload_n hx hb dX6_order_6 rfl (lv_at hl 1 rfl) ?_
  refine g_callF (F := f_X6_isMan u1 k a N) hD hS hA (va_runV (As := [.int a]) (rest := []) ⟨hx, hb, hml, hown, hts⟩ (c_X6_isMan l D cs ad u1 H.size k hk a N hR1.n) (cwV 1 hts gX6_order_X6_isMan rfl rfl rfl (by decide +kernel) ⟨Nat.le_of_ble_eq_true rfl, Nat.le_of_ble_eq_true rfl⟩) (g_preV hP hD hK hN (k := k) hk (by decide) rfl rfl rfl rfl) rfl rfl hl.1 rfl (lv_room (Nat.le_of_ble_eq_true rfl)) dX6_order_7 ⟨Nat.le_of_ble_eq_true rfl, Nat.le_of_ble_eq_true rfl⟩) (fun H locs hP hD hS => ?_)
  refine lv_if_ne (tgt := 19) hx hb dX6_order_10 (by decide) (fun c_2 => ?_) (fun c_2 => ?_)
  · skip
    refine lv_iload_n hx hb dX6_order_19 rfl (lv_at hl 2 rfl) ?_
    refine lv_iconst (v := nI 0) hx hb dX6_order_20 (by decide) ?_
    refine lv_bipush (v := nI 6) hx hb dX6_order_21 (by decide) ?_
    refine g_callF (F := f_X6_isIn b (nI 0) (nI 6)) hD hS hA (va_runS (As := [.int b, .int (nI 0), .int (nI 6)]) (rest := []) ⟨hx, hb, hml, hown, hts⟩ (c_X6_isIn l D cs ad u1 H.size b (nI 0) (nI 6)) (va_cwS 3 hts gX6_order_X6_isIn rfl rfl rfl (by decide +kernel) ⟨Nat.le_of_ble_eq_true rfl, Nat.le_of_ble_eq_true rfl⟩) (g_preS hP hD hK hN) rfl rfl hl.1 rfl (lv_room (Nat.le_of_ble_eq_true rfl)) dX6_order_23 ⟨Nat.le_of_ble_eq_true rfl, Nat.le_of_ble_eq_true rfl⟩) (fun H locs hP hD hS => ?_)
    refine lv_if_eq (tgt := 39) hx hb dX6_order_26 (by decide) (fun c_3 => ?_) (fun c_3 => ?_)
    · skip
      refine lv_aload_n hx hb dX6_order_39 rfl (lv_at hl 0 rfl) ?_
      refine lv_iconst (v := nI 2) hx hb dX6_order_40 (by decide) ?_
      refine g_callFM (F := f_X6_fail u1 k (nI 2)) (M := m_X6_fail u1 k (nI 2)) hD hS hA (va_runV (As := [.int (nI 2)]) (rest := []) ⟨hx, hb, hml, hown, hts⟩ (c_X6_fail l D cs ad u1 H.size k hk (nI 2)) (cwV 1 hts gX6_order_X6_fail rfl rfl rfl (by decide +kernel) ⟨Nat.le_of_ble_eq_true rfl, Nat.le_of_ble_eq_true rfl⟩) (g_preV hP hD hK hN (k := k) hk (by decide) rfl rfl rfl rfl) rfl rfl hl.1 rfl (lv_room (Nat.le_of_ble_eq_true rfl)) dX6_order_41 ⟨Nat.le_of_ble_eq_true rfl, Nat.le_of_ble_eq_true rfl⟩) (fun u4 H locs hu4 hP hD hS => ?_)
      exact g_iret (v := f_X6_fail u1 k (nI 2)) hx hb hr hlocks rfl hP hD hS (by rw [show (mZ_order J z N a b c0) = J from (by simp only [mZ_order]; rw [if_neg (by rw [show thZ_order J z N a b c0 = 2 from (by simp only [thZ_order]; rw [if_pos (man_1 hN8 c_2 0)]; exact rng_0 (lo := nI 0) c_3)]; decide)])]; exact Po.fail hR1 hu4 (by simp only [thZ_order]; rw [if_pos (man_1 hN8 c_2 0)]; exact rng_0 (lo := nI 0) c_3) (by decide)) dX6_order_44
    · skip
      refine lv_iload_n hx hb dX6_order_29 rfl (lv_at hl 3 rfl) ?_
      refine lv_iconst (v := nI 1) hx hb dX6_order_30 (by decide) ?_
      refine lv_bipush (v := nI 9) hx hb dX6_order_31 (by decide) ?_
      refine g_callF (F := f_X6_isIn c0 (nI 1) (nI 9)) hD hS hA (va_runS (As := [.int c0, .int (nI 1), .int (nI 9)]) (rest := []) ⟨hx, hb, hml, hown, hts⟩ (c_X6_isIn l D cs ad u1 H.size c0 (nI 1) (nI 9)) (va_cwS 3 hts gX6_order_X6_isIn rfl rfl rfl (by decide +kernel) ⟨Nat.le_of_ble_eq_true rfl, Nat.le_of_ble_eq_true rfl⟩) (g_preS hP hD hK hN) rfl rfl hl.1 rfl (lv_room (Nat.le_of_ble_eq_true rfl)) dX6_order_33 ⟨Nat.le_of_ble_eq_true rfl, Nat.le_of_ble_eq_true rfl⟩) (fun H locs hP hD hS => ?_)
      refine lv_if_ne (tgt := 45) hx hb dX6_order_36 (by decide) (fun c_5 => ?_) (fun c_5 => ?_)
      · skip
        refine lv_aload_n hx hb dX6_order_45 rfl (lv_at hl 0 rfl) ?_
        refine lv_iload_n hx hb dX6_order_46 rfl (lv_at hl 1 rfl) ?_
        have hw7 := hIV.1.left7 (mb_c hN8 (man_1 hN8 c_2 0)).2.1
        obtain ⟨hm6a, hm6b, hm6c⟩ := mb_c hN8 (man_1 hN8 c_2 0)
        refine lv_topi (fun y9 ey9 => ?_)
        obtain rfl := ey9.trans hm6c
        refine lv_bipush (v := nI 6) hx hb dX6_order_47 (by decide) ?_
        refine g_callF (F := u1 (k + 4) (31 * a.toNatClampNeg + 6)) hD hS hA (va_runV (As := [.int (nI a.toNatClampNeg), .int (nI 6)]) (rest := []) ⟨hx, hb, hml, hown, hts⟩ (c_X6_get l D cs ad u1 H.size k hk a.toNatClampNeg (by omega) 6 (by omega)) (cwV 2 hts gX6_order_X6_get rfl rfl rfl (by decide +kernel) ⟨Nat.le_of_ble_eq_true rfl, Nat.le_of_ble_eq_true rfl⟩) (g_preV hP hD hK hN (k := k) hk (by decide) rfl rfl rfl rfl) rfl rfl hl.1 rfl (lv_room (Nat.le_of_ble_eq_true rfl)) dX6_order_49 ⟨Nat.le_of_ble_eq_true rfl, Nat.le_of_ble_eq_true rfl⟩) (fun H locs hP hD hS => ?_)
        rw [show u1 (k + 4) (31 * a.toNatClampNeg + 6) = nI ((J (z + 8 + (1 + a.toNatClampNeg)) 7).toNatClampNeg) from ((hR1.t6 (by omega)).trans hw7.1)]
        refine lv_iload_n hx hb dX6_order_52 rfl (lv_at hl 3 rfl) ?_
        have hn9 := in_1n (n := 9) (by decide) c_5
        refine lv_topi (fun y9 ey9 => ?_)
        obtain rfl := ey9.trans hn9.1
        refine lv_iadd hx hb dX6_order_53 ?_
        rw [nI_add ((J (z + 8 + (1 + a.toNatClampNeg)) 7).toNatClampNeg) c0.toNatClampNeg]
        refine lv_bipush (v := nI 24) hx hb dX6_order_54 (by decide) ?_
        refine lv_icmp_le (tgt := 65) hx hb dX6_order_56 (by decide) (fun c_7 => ?_) (fun c_7 => ?_)
        · skip
          have nc_7 : ((J (z + 8 + (1 + a.toNatClampNeg)) 7).toNatClampNeg + c0.toNatClampNeg) ≤ 24 := (nI_leI (a := ((J (z + 8 + (1 + a.toNatClampNeg)) 7).toNatClampNeg + c0.toNatClampNeg)) (b := 24) (by omega) (by omega)).mp c_7
          refine lv_iconst (v := nI 0) hx hb dX6_order_65 (by decide) ?_
          refine lv_istore (lv' := [(4, .int (nI 0)), (0, .ref (ad k)), (1, .int a), (2, .int b), (3, .int c0)]) hx hb dX6_order_66 hl (by decide) rfl (fun ls hl => ?_)
          suffices KL68 : ∀ (fuel : Nat) (i : Nat) (v : Mm) (H : Heap) (locs : List Loc) (ls : Array Slot), (i ≤ c0.toNatClampNeg) → (Rl z (addO J (z + 8 + (1 + a.toNatClampNeg)) (J (z + 8 + (1 + a.toNatClampNeg)) 7).toNatClampNeg b i) k v N ∧ v k = u1 k) → c0.toNatClampNeg - i < fuel → va_P D vwCl (gw kM cs ad v) H → va_D (gA kM ad sz) (gw kM cs ad v) → va_S (gA kM ad sz) s.heap H locs → lv_has ls 5 [(4, .int (nI i)), (0, .ref (ad k)), (1, .int a), (2, .int b), (3, .int c0)] → W pg l e ({ frames := 2, cells := 0, slots := 0, locals := 43 }) s m args below meth c H locs 0 0 (MQ below (va_Qi (fun r u => Po z k (mZ_order J z N a b c0) N (thZ_order J z N a b c0) (nI ((J (z + 8 + (1 + a.toNatClampNeg)) 7).toNatClampNeg + c0.toNatClampNeg)) r u) (wat kM cs D ad (gA kM ad sz)) (gA kM ad sz)) args s 0 0 (gA kM ad sz)) (F0 m 68 ls []) from KL68 _ 0 u1 _ _ _ (Nat.zero_le _) ⟨hR1, rfl⟩ (Nat.lt_succ_self _) hP hD hS (lv_sub hl [0, 1, 2, 3, 4] rfl)
          intro fuel68
          induction fuel68 with
          | zero => intro _ _ _ _ _ _ _ hm; exact absurd hm (Nat.not_lt_zero _)
          | succ fuel68 ih68 =>
            intro i v H locs ls hi hv hm68 hP hD hS hl
            refine lv_iload hx hb dX6_order_68 (lv_at hl 0 rfl) ?_
            refine lv_iload_n hx hb dX6_order_70 rfl (lv_at hl 4 rfl) ?_
            refine lv_topi (fun y9 ey9 => ?_)
            obtain rfl := ey9.trans hn9.1
            refine lv_icmp_ge (tgt := 104) hx hb dX6_order_71 (by decide) (fun c_8 => ?_) (fun c_8 => ?_)
            · skip
              have nc_8 : c0.toNatClampNeg ≤ i := (nI_leI (a := c0.toNatClampNeg) (b := i) (by omega) (by omega)).mp c_8
              refine lv_aload_n hx hb dX6_order_104 rfl (lv_at hl 1 rfl) ?_
              refine lv_iload_n hx hb dX6_order_105 rfl (lv_at hl 2 rfl) ?_
              obtain ⟨hm9a, hm9b, hm9c⟩ := mb_c hN8 (man_1 hN8 c_2 0)
              refine lv_topi (fun y9 ey9 => ?_)
              obtain rfl := ey9.trans hm9c
              refine lv_bipush (v := nI 6) hx hb dX6_order_106 (by decide) ?_
              refine g_callF (F := v (k + 4) (31 * a.toNatClampNeg + 6)) hD hS hA (va_runV (As := [.int (nI a.toNatClampNeg), .int (nI 6)]) (rest := []) ⟨hx, hb, hml, hown, hts⟩ (c_X6_get l D cs ad v H.size k hk a.toNatClampNeg (by omega) 6 (by omega)) (cwV 2 hts gX6_order_X6_get rfl rfl rfl (by decide +kernel) ⟨Nat.le_of_ble_eq_true rfl, Nat.le_of_ble_eq_true rfl⟩) (g_preV hP hD hK hN (k := k) hk (by decide) rfl rfl rfl rfl) rfl rfl hl.1 rfl (lv_room (Nat.le_of_ble_eq_true rfl)) dX6_order_108 ⟨Nat.le_of_ble_eq_true rfl, Nat.le_of_ble_eq_true rfl⟩) (fun H locs hP hD hS => ?_)
              rw [show v (k + 4) (31 * a.toNatClampNeg + 6) = nI ((J (z + 8 + (1 + a.toNatClampNeg)) 7).toNatClampNeg + i) from ((hv.1.t6 (by omega)).trans (addO_7 hw7.1 i))]
              exact g_iret (v := nI ((J (z + 8 + (1 + a.toNatClampNeg)) 7).toNatClampNeg + i)) hx hb hr hlocks rfl hP hD hS (have e9 : thZ_order J z N a b c0 = 0 := (by simp only [thZ_order]; rw [if_pos (man_1 hN8 c_2 0)]; refine (rng_1 (lo := nI 0) c_3).trans ?_; refine (rng_1 c_5).trans ?_; rw [if_pos c_7]); Po.ok (by simp only [mZ_order]; rw [if_pos e9]; rw [show i = c0.toNatClampNeg from by omega] at hv; exact hv.1) ((congrFun hv.2 0).trans hT1) e9 (by rw [show i = c0.toNatClampNeg from by omega])) dX6_order_111
            · skip
              have nc_8 : ¬ c0.toNatClampNeg ≤ i := fun z9_ => c_8 ((nI_leI (a := c0.toNatClampNeg) (b := i) (by omega) (by omega)).mpr z9_)
              refine lv_aload_n hx hb dX6_order_74 rfl (lv_at hl 1 rfl) ?_
              refine lv_iload_n hx hb dX6_order_75 rfl (lv_at hl 2 rfl) ?_
              obtain ⟨hm10a, hm10b, hm10c⟩ := mb_c hN8 (man_1 hN8 c_2 0)
              refine lv_topi (fun y9 ey9 => ?_)
              obtain rfl := ey9.trans hm10c
              refine lv_bipush (v := nI 7) hx hb dX6_order_76 (by decide) ?_
              refine lv_aload_n hx hb dX6_order_78 rfl (lv_at hl 1 rfl) ?_
              refine lv_iload_n hx hb dX6_order_79 rfl (lv_at hl 2 rfl) ?_
              obtain ⟨hm11a, hm11b, hm11c⟩ := mb_c hN8 (man_1 hN8 c_2 0)
              refine lv_topi (fun y9 ey9 => ?_)
              obtain rfl := ey9.trans hm11c
              refine lv_bipush (v := nI 6) hx hb dX6_order_80 (by decide) ?_
              refine g_callF (F := v (k + 4) (31 * a.toNatClampNeg + 6)) hD hS hA (va_runV (As := [.int (nI a.toNatClampNeg), .int (nI 6)]) (rest := [.int (nI 7), .int (nI a.toNatClampNeg), .ref (ad k)]) ⟨hx, hb, hml, hown, hts⟩ (c_X6_get l D cs ad v H.size k hk a.toNatClampNeg (by omega) 6 (by omega)) (cwV 2 hts gX6_order_X6_get rfl rfl rfl (by decide +kernel) ⟨Nat.le_of_ble_eq_true rfl, Nat.le_of_ble_eq_true rfl⟩) (g_preV hP hD hK hN (k := k) hk (by decide) rfl rfl rfl rfl) rfl rfl hl.1 rfl (lv_room (Nat.le_of_ble_eq_true rfl)) dX6_order_82 ⟨Nat.le_of_ble_eq_true rfl, Nat.le_of_ble_eq_true rfl⟩) (fun H locs hP hD hS => ?_)
              rw [show v (k + 4) (31 * a.toNatClampNeg + 6) = nI ((J (z + 8 + (1 + a.toNatClampNeg)) 7).toNatClampNeg + i) from ((hv.1.t6 (by omega)).trans (addO_7 hw7.1 i))]
              refine lv_iadd hx hb dX6_order_85 ?_
              rw [nI_add 7 ((J (z + 8 + (1 + a.toNatClampNeg)) 7).toNatClampNeg + i)]
              refine lv_iload_n hx hb dX6_order_86 rfl (lv_at hl 3 rfl) ?_
              refine g_callM (M := wr v (k + 4) (31 * a.toNatClampNeg + (7 + ((J (z + 8 + (1 + a.toNatClampNeg)) 7).toNatClampNeg + i))) b) hD hS hA (va_runV (As := [.int (nI a.toNatClampNeg), .int (nI (7 + ((J (z + 8 + (1 + a.toNatClampNeg)) 7).toNatClampNeg + i))), .int b]) (rest := []) ⟨hx, hb, hml, hown, hts⟩ (c_X6_set l D cs ad v H.size k hk a.toNatClampNeg (by omega) (7 + ((J (z + 8 + (1 + a.toNatClampNeg)) 7).toNatClampNeg + i)) (by omega) b) (cwV 3 hts gX6_order_X6_set rfl rfl rfl (by decide +kernel) ⟨Nat.le_of_ble_eq_true rfl, Nat.le_of_ble_eq_true rfl⟩) (g_preV hP hD hK hN (k := k) hk (by decide) rfl rfl rfl rfl) rfl rfl hl.1 rfl (lv_room (Nat.le_of_ble_eq_true rfl)) dX6_order_87 ⟨Nat.le_of_ble_eq_true rfl, Nat.le_of_ble_eq_true rfl⟩) (fun u12 H locs hu12 hP hD hS => ?_)
              refine lv_aload_n hx hb dX6_order_90 rfl (lv_at hl 1 rfl) ?_
              refine lv_iload_n hx hb dX6_order_91 rfl (lv_at hl 2 rfl) ?_
              have hw7 := hIV.1.left7 (mb_c hN8 (man_1 hN8 c_2 0)).2.1
              obtain ⟨hm13a, hm13b, hm13c⟩ := mb_c hN8 (man_1 hN8 c_2 0)
              refine lv_topi (fun y9 ey9 => ?_)
              obtain rfl := ey9.trans hm13c
              refine lv_bipush (v := nI 6) hx hb dX6_order_92 (by decide) ?_
              refine lv_iconst (v := nI 1) hx hb dX6_order_94 (by decide) ?_
              refine g_callM (M := wr u12 (k + 4) (31 * a.toNatClampNeg + 6) (u12 (k + 4) (31 * a.toNatClampNeg + 6) + (nI 1))) hD hS hA (va_runV (As := [.int (nI a.toNatClampNeg), .int (nI 6), .int (nI 1)]) (rest := []) ⟨hx, hb, hml, hown, hts⟩ (c_X6_add l D cs ad u12 H.size k hk a.toNatClampNeg (by omega) 6 (by omega) (nI 1)) (cwV 3 hts gX6_order_X6_add rfl rfl rfl (by decide +kernel) ⟨Nat.le_of_ble_eq_true rfl, Nat.le_of_ble_eq_true rfl⟩) (g_preV hP hD hK hN (k := k) hk (by decide) rfl rfl rfl rfl) rfl rfl hl.1 rfl (lv_room (Nat.le_of_ble_eq_true rfl)) dX6_order_95 ⟨Nat.le_of_ble_eq_true rfl, Nat.le_of_ble_eq_true rfl⟩) (fun u14 H locs hu14 hP hD hS => ?_)
              refine lv_iinc (v := nI (i + 1)) (lv' := [(4, .int (nI (i + 1))), (0, .ref (ad k)), (1, .int a), (2, .int b), (3, .int c0)]) hx hb dX6_order_98 hl (k := 0) rfl (nI_1 i) (by decide) rfl (fun ls hl => ?_)
              refine lv_goto (tgt := 68) hx hb dX6_order_101 (by decide) ?_
              exact ih68 (i + 1) u14 _ _ _ (by omega) (by rw [hu14, hu12, wr_sn _ _ _ (by omega), (hv.1.t6 (by omega)).trans (addO_7 hw7.1 i), nI_add]; exact ⟨(hv.1.wo _ (by omega) (by omega) hN8).w7 _ (by omega), by rw [wr_n _ _ _ (by omega), wr_n _ _ _ (by omega)]; exact hv.2⟩) (by omega) hP hD hS (lv_sub hl [0, 1, 2, 3, 4] rfl)
        · skip
          have nc_7 : ¬ ((J (z + 8 + (1 + a.toNatClampNeg)) 7).toNatClampNeg + c0.toNatClampNeg) ≤ 24 := fun z9_ => c_7 ((nI_leI (a := ((J (z + 8 + (1 + a.toNatClampNeg)) 7).toNatClampNeg + c0.toNatClampNeg)) (b := 24) (by omega) (by omega)).mpr z9_)
          refine lv_aload_n hx hb dX6_order_59 rfl (lv_at hl 0 rfl) ?_
          refine lv_iconst (v := nI 3) hx hb dX6_order_60 (by decide) ?_
          refine g_callFM (F := f_X6_fail u1 k (nI 3)) (M := m_X6_fail u1 k (nI 3)) hD hS hA (va_runV (As := [.int (nI 3)]) (rest := []) ⟨hx, hb, hml, hown, hts⟩ (c_X6_fail l D cs ad u1 H.size k hk (nI 3)) (cwV 1 hts gX6_order_X6_fail rfl rfl rfl (by decide +kernel) ⟨Nat.le_of_ble_eq_true rfl, Nat.le_of_ble_eq_true rfl⟩) (g_preV hP hD hK hN (k := k) hk (by decide) rfl rfl rfl rfl) rfl rfl hl.1 rfl (lv_room (Nat.le_of_ble_eq_true rfl)) dX6_order_61 ⟨Nat.le_of_ble_eq_true rfl, Nat.le_of_ble_eq_true rfl⟩) (fun u15 H locs hu15 hP hD hS => ?_)
          exact g_iret (v := f_X6_fail u1 k (nI 3)) hx hb hr hlocks rfl hP hD hS (by rw [show (mZ_order J z N a b c0) = J from (by simp only [mZ_order]; rw [if_neg (by rw [show thZ_order J z N a b c0 = 3 from (by simp only [thZ_order]; rw [if_pos (man_1 hN8 c_2 0)]; refine (rng_1 (lo := nI 0) c_3).trans ?_; refine (rng_1 c_5).trans ?_; rw [if_neg c_7])]; decide)])]; exact Po.fail hR1 hu15 (by simp only [thZ_order]; rw [if_pos (man_1 hN8 c_2 0)]; refine (rng_1 (lo := nI 0) c_3).trans ?_; refine (rng_1 c_5).trans ?_; rw [if_neg c_7]) (by decide)) dX6_order_64
      · skip
        refine lv_aload_n hx hb dX6_order_39 rfl (lv_at hl 0 rfl) ?_
        refine lv_iconst (v := nI 2) hx hb dX6_order_40 (by decide) ?_
        refine g_callFM (F := f_X6_fail u1 k (nI 2)) (M := m_X6_fail u1 k (nI 2)) hD hS hA (va_runV (As := [.int (nI 2)]) (rest := []) ⟨hx, hb, hml, hown, hts⟩ (c_X6_fail l D cs ad u1 H.size k hk (nI 2)) (cwV 1 hts gX6_order_X6_fail rfl rfl rfl (by decide +kernel) ⟨Nat.le_of_ble_eq_true rfl, Nat.le_of_ble_eq_true rfl⟩) (g_preV hP hD hK hN (k := k) hk (by decide) rfl rfl rfl rfl) rfl rfl hl.1 rfl (lv_room (Nat.le_of_ble_eq_true rfl)) dX6_order_41 ⟨Nat.le_of_ble_eq_true rfl, Nat.le_of_ble_eq_true rfl⟩) (fun u16 H locs hu16 hP hD hS => ?_)
        exact g_iret (v := f_X6_fail u1 k (nI 2)) hx hb hr hlocks rfl hP hD hS (by rw [show (mZ_order J z N a b c0) = J from (by simp only [mZ_order]; rw [if_neg (by rw [show thZ_order J z N a b c0 = 2 from (by simp only [thZ_order]; rw [if_pos (man_1 hN8 c_2 0)]; refine (rng_1 (lo := nI 0) c_3).trans ?_; exact rng_0 c_5)]; decide)])]; exact Po.fail hR1 hu16 (by simp only [thZ_order]; rw [if_pos (man_1 hN8 c_2 0)]; refine (rng_1 (lo := nI 0) c_3).trans ?_; exact rng_0 c_5) (by decide)) dX6_order_44
  · skip
    refine lv_aload_n hx hb dX6_order_13 rfl (lv_at hl 0 rfl) ?_
    refine lv_iconst (v := nI 1) hx hb dX6_order_14 (by decide) ?_
    refine g_callFM (F := f_X6_fail u1 k (nI 1)) (M := m_X6_fail u1 k (nI 1)) hD hS hA (va_runV (As := [.int (nI 1)]) (rest := []) ⟨hx, hb, hml, hown, hts⟩ (c_X6_fail l D cs ad u1 H.size k hk (nI 1)) (cwV 1 hts gX6_order_X6_fail rfl rfl rfl (by decide +kernel) ⟨Nat.le_of_ble_eq_true rfl, Nat.le_of_ble_eq_true rfl⟩) (g_preV hP hD hK hN (k := k) hk (by decide) rfl rfl rfl rfl) rfl rfl hl.1 rfl (lv_room (Nat.le_of_ble_eq_true rfl)) dX6_order_15 ⟨Nat.le_of_ble_eq_true rfl, Nat.le_of_ble_eq_true rfl⟩) (fun u17 H locs hu17 hP hD hS => ?_)
    exact g_iret (v := f_X6_fail u1 k (nI 1)) hx hb hr hlocks rfl hP hD hS (by rw [show (mZ_order J z N a b c0) = J from (by simp only [mZ_order]; rw [if_neg (by rw [show thZ_order J z N a b c0 = 1 from (by simp only [thZ_order]; rw [man_0 hN8 c_2 0, if_neg (by decide)])]; decide)])]; exact Po.fail hR1 hu17 (by simp only [thZ_order]; rw [man_0 hN8 c_2 0, if_neg (by decide)]) (by decide)) dX6_order_18

set_option maxHeartbeats 4000000 in
set_option maxRecDepth 100000 in
theorem c_X6_pass (l : Launch) (D : va_G) (cs : Nat → ClassId) (ad : Nat → Nat) (I : Mm) (sz : Nat) (k : Nat) (hk : kM.getD k 0 = 10) (a : Int32) (z : Nat) (J : Mm) (N : Nat) (hRl : Rl z J k I N) (hIV : IV J z N) : MetI l yX6_pass wsX6_pass ({ frames := 6, cells := 0, slots := 0, locals := 137 }) kM cs D ad I sz [.ref (ad k), .int a] (fun r u => Po z k (mZ_pass J z N a) N (thZ_pass a) (passR J z N a.toNatClampNeg) r u) 0 0 := by
  refine g_met (cc := cX6_pass) (maxL := 4) (ret := (some .int)) (by decide) rfl (Nat.le_of_ble_eq_true rfl) ?_
  intro pg e s m args below meth c ls hx hb hr hml hts hown hlocks hsz hP hD hK hN hS hA hl
  have hown : s.vm.findClass RX6 = some m.cls := hown
  have hl : lv_has ls 4 [(0, .ref (ad k)), (1, .int a)] := hl
  have hN8 := hIV.1.2.1
  refine lv_aload_n hx hb dX6_pass_0 rfl (lv_at hl 0 rfl) ?_
  refine lv_iconst (v := nI 0) hx hb dX6_pass_1 (by decide) ?_
  refine g_put (κ := 10) (ci := 6) (v := nI 0) (ty := .int) (C := RX6) (T := TX6) (N := 8) hx hb hts hown hK hP hD hS (k := k) hk (by decide) rfl (fun _ h => List.mem_cons_of_mem _ (List.mem_append_right _ h)) tyX6 tyX6_ok nmX6 rfl 0 (by decide) (hts _ (List.mem_of_getElem? (i := 1) rfl)) (fun _ h9 => h9) rfl (by decide +kernel) rfl rfl (Nat.le_of_ble_eq_true rfl) rfl dX6_pass_2 (fun u1 H locs hu1 hP hD hS => ?_)
  have hR1 : Rl z J k u1 N := by rw [hu1]; exact hRl.th _
  have hT1 : u1 k 0 = nI 0 := by rw [hu1]; exact wr_ss _ _ _ _
  skip
  refine lv_iload_n hx hb dX6_pass_5 rfl (lv_at hl 1 rfl) ?_
  refine lv_iconst (v := nI 1) hx hb dX6_pass_6 (by decide) ?_
  refine lv_bipush (v := nI 100) hx hb dX6_pass_7 (by decide) ?_
  refine g_callF (F := f_X6_isIn a (nI 1) (nI 100)) hD hS hA (va_runS (As := [.int a, .int (nI 1), .int (nI 100)]) (rest := []) ⟨hx, hb, hml, hown, hts⟩ (c_X6_isIn l D cs ad u1 H.size a (nI 1) (nI 100)) (va_cwS 3 hts gX6_pass_X6_isIn rfl rfl rfl (by decide +kernel) ⟨Nat.le_of_ble_eq_true rfl, Nat.le_of_ble_eq_true rfl⟩) (g_preS hP hD hK hN) rfl rfl hl.1 rfl (lv_room (Nat.le_of_ble_eq_true rfl)) dX6_pass_9 ⟨Nat.le_of_ble_eq_true rfl, Nat.le_of_ble_eq_true rfl⟩) (fun H locs hP hD hS => ?_)
  refine lv_if_ne (tgt := 21) hx hb dX6_pass_12 (by decide) (fun c_2 => ?_) (fun c_2 => ?_)
  · skip
    refine lv_aload_n hx hb dX6_pass_21 rfl (lv_at hl 0 rfl) ?_
    refine g_get (κ := 10) (ci := 6) (v := .ref (ad (k + 5))) (C := RX6) (T := TX6) (N := 8) hx hb hts hown hK hP (k := k) hk (by decide) rfl (fun _ h => List.mem_cons_of_mem _ (List.mem_append_right _ h)) rfl 5 (by decide) (hts _ (List.mem_of_getElem? (i := 2) rfl)) (fun _ h9 => h9) rfl dX6_pass_22 ?_
    refine lv_iconst (v := nI 3) hx hb dX6_pass_25 (by decide) ?_
    refine g_ialdn (n := 4) (i := 3) hx hb hK hP (k := (k + 5)) (kd_10_5 hk) (by decide) rfl (by omega) (by decide) dX6_pass_26 ?_
    refine lv_istore_n (lv' := [(2, .int (u1 (k + 5) 3)), (0, .ref (ad k)), (1, .int a)]) hx hb dX6_pass_27 rfl hl (by decide) rfl (fun ls hl => ?_)
    refine lv_iconst (v := nI 0) hx hb dX6_pass_28 (by decide) ?_
    refine lv_istore_n (lv' := [(3, .int (nI 0)), (2, .int (u1 (k + 5) 3)), (0, .ref (ad k)), (1, .int a)]) hx hb dX6_pass_29 rfl hl (by decide) rfl (fun ls hl => ?_)
    suffices KL30 : ∀ (fuel : Nat) (i : Nat) (v : Mm) (H : Heap) (locs : List Loc) (ls : Array Slot), (i ≤ a.toNatClampNeg) → (Rl z (tkI J z N i) k v N ∧ v k = u1 k) → a.toNatClampNeg - i < fuel → va_P D vwCl (gw kM cs ad v) H → va_D (gA kM ad sz) (gw kM cs ad v) → va_S (gA kM ad sz) s.heap H locs → lv_has ls 4 [(3, .int (nI i)), (2, .int (u1 (k + 5) 3)), (0, .ref (ad k)), (1, .int a)] → W pg l e ({ frames := 6, cells := 0, slots := 0, locals := 137 }) s m args below meth c H locs 0 0 (MQ below (va_Qi (fun r u => Po z k (mZ_pass J z N a) N (thZ_pass a) (passR J z N a.toNatClampNeg) r u) (wat kM cs D ad (gA kM ad sz)) (gA kM ad sz)) args s 0 0 (gA kM ad sz)) (F0 m 30 ls []) from KL30 _ 0 u1 _ _ _ (Nat.zero_le _) ⟨hR1, rfl⟩ (Nat.lt_succ_self _) hP hD hS (lv_sub hl [0, 1, 2, 3] rfl)
    intro fuel30
    induction fuel30 with
    | zero => intro _ _ _ _ _ _ _ hm; exact absurd hm (Nat.not_lt_zero _)
    | succ fuel30 ih30 =>
      intro i v H locs ls hi hv hm30 hP hD hS hl
      refine lv_iload_n hx hb dX6_pass_30 rfl (lv_at hl 0 rfl) ?_
      refine lv_iload_n hx hb dX6_pass_31 rfl (lv_at hl 3 rfl) ?_
      have hn9 := in_1n (n := 100) (by decide) c_2
      refine lv_topi (fun y9 ey9 => ?_)
      obtain rfl := ey9.trans hn9.1
      refine lv_icmp_ge (tgt := 45) hx hb dX6_pass_32 (by decide) (fun c_3 => ?_) (fun c_3 => ?_)
      · skip
        have nc_3 : a.toNatClampNeg ≤ i := (nI_leI (a := a.toNatClampNeg) (b := i) (by omega) (by omega)).mp c_3
        refine lv_aload_n hx hb dX6_pass_45 rfl (lv_at hl 2 rfl) ?_
        refine g_get (κ := 10) (ci := 6) (v := .ref (ad (k + 5))) (C := RX6) (T := TX6) (N := 8) hx hb hts hown hK hP (k := k) hk (by decide) rfl (fun _ h => List.mem_cons_of_mem _ (List.mem_append_right _ h)) rfl 5 (by decide) (hts _ (List.mem_of_getElem? (i := 2) rfl)) (fun _ h9 => h9) rfl dX6_pass_46 ?_
        refine lv_iconst (v := nI 3) hx hb dX6_pass_49 (by decide) ?_
        refine g_ialdn (n := 4) (i := 3) hx hb hK hP (k := (k + 5)) (kd_10_5 hk) (by decide) rfl (by omega) (by decide) dX6_pass_50 ?_
        refine lv_iload_n hx hb dX6_pass_51 rfl (lv_at hl 1 rfl) ?_
        refine lv_isub hx hb dX6_pass_52 ?_
        exact g_iret (v := (v (k + 5) 3) - (u1 (k + 5) 3)) hx hb hr hlocks rfl hP hD hS (Po.ok (by simp only [mZ_pass]; rw [if_pos (pass_1 c_2)]; rw [show i = a.toNatClampNeg from by omega] at hv; exact hv.1) ((congrFun hv.2 0).trans hT1) (pass_1 c_2) (by rw [hv.1.n3, hR1.n3, show i = a.toNatClampNeg from by omega]; rfl)) dX6_pass_53
      · skip
        have nc_3 : ¬ a.toNatClampNeg ≤ i := fun z9_ => c_3 ((nI_leI (a := a.toNatClampNeg) (b := i) (by omega) (by omega)).mpr z9_)
        refine lv_aload_n hx hb dX6_pass_35 rfl (lv_at hl 2 rfl) ?_
        refine g_callv hD hS hA (va_runV (As := []) (rest := []) ⟨hx, hb, hml, hown, hts⟩ (c_X6_tickOn l D cs ad v H.size k hk z (tkI J z N i) N hv.1 (hIV.tkI i)) (cwV 0 hts gX6_pass_X6_tickOn rfl rfl rfl (by decide +kernel) ⟨Nat.le_of_ble_eq_true rfl, Nat.le_of_ble_eq_true rfl⟩) (g_preV hP hD hK hN (k := k) hk (by decide) rfl rfl rfl rfl) rfl rfl hl.1 rfl (lv_room (Nat.le_of_ble_eq_true rfl)) dX6_pass_36 ⟨Nat.le_of_ble_eq_true rfl, Nat.le_of_ble_eq_true rfl⟩) (fun u4 H locs hu4 hP hD hS => ?_)
        refine lv_iinc (v := nI (i + 1)) (lv' := [(3, .int (nI (i + 1))), (2, .int (u1 (k + 5) 3)), (0, .ref (ad k)), (1, .int a)]) hx hb dX6_pass_39 hl (k := 0) rfl (nI_1 i) (by decide) rfl (fun ls hl => ?_)
        refine lv_goto (tgt := 30) hx hb dX6_pass_42 (by decide) ?_
        exact ih30 (i + 1) u4 _ _ _ (by omega) ⟨hu4.1, hu4.2.trans hv.2⟩ (by omega) hP hD hS (lv_sub hl [0, 1, 2, 3] rfl)
  · skip
    refine lv_aload_n hx hb dX6_pass_15 rfl (lv_at hl 0 rfl) ?_
    refine lv_iconst (v := nI 1) hx hb dX6_pass_16 (by decide) ?_
    refine g_callFM (F := f_X6_fail u1 k (nI 1)) (M := m_X6_fail u1 k (nI 1)) hD hS hA (va_runV (As := [.int (nI 1)]) (rest := []) ⟨hx, hb, hml, hown, hts⟩ (c_X6_fail l D cs ad u1 H.size k hk (nI 1)) (cwV 1 hts gX6_pass_X6_fail rfl rfl rfl (by decide +kernel) ⟨Nat.le_of_ble_eq_true rfl, Nat.le_of_ble_eq_true rfl⟩) (g_preV hP hD hK hN (k := k) hk (by decide) rfl rfl rfl rfl) rfl rfl hl.1 rfl (lv_room (Nat.le_of_ble_eq_true rfl)) dX6_pass_17 ⟨Nat.le_of_ble_eq_true rfl, Nat.le_of_ble_eq_true rfl⟩) (fun u5 H locs hu5 hP hD hS => ?_)
    exact g_iret (v := f_X6_fail u1 k (nI 1)) hx hb hr hlocks rfl hP hD hS (by rw [show (mZ_pass J z N a) = J from (by simp only [mZ_pass]; rw [if_neg (by rw [show thZ_pass a = 1 from (pass_0 c_2)]; decide)])]; exact Po.fail hR1 hu5 (pass_0 c_2) (by decide)) dX6_pass_20

theorem way_no {J : Mm} {z a b : Nat} (hb : b < 256) (ha : opn J z a) (h : ¬ opn J z b) : DI (opn J z) (fun c => c = a) 256 b (-1) :=
  Or.inl ⟨rfl, fun d _ y => h (rch_open (fun c _ e => by rw [e]; exact ha) d b hb y)⟩

set_option maxHeartbeats 4000000 in
set_option maxRecDepth 100000 in
theorem c_X6_way (l : Launch) (D : va_G) (cs : Nat → ClassId) (ad : Nat → Nat) (I : Mm) (sz : Nat) (k : Nat) (hk : kM.getD k 0 = 10) (a : Int32) (b : Int32) (c0 : Int32) (d : Int32) (z : Nat) (J : Mm) (N : Nat) (hRl : Rl z J k I N) (hIV : IV J z N) : MetI l yX6_way wsX6_way ({ frames := 2, cells := 0, slots := 0, locals := 47 }) kM cs D ad I sz [.ref (ad k), .int a, .int b, .int c0, .int d] (fun r u => PoP z k J N (thZ_two a b c0 d) (fun r => wayF J z (pl a b) (pl c0 d) r) r u) 0 0 := by
  refine g_met (cc := cX6_way) (maxL := 6) (ret := (some .int)) (by decide) rfl (Nat.le_of_ble_eq_true rfl) ?_
  intro pg e s m args below meth c ls hx hb hr hml hts hown hlocks hsz hP hD hK hN hS hA hl
  have hown : s.vm.findClass RX6 = some m.cls := hown
  have hl : lv_has ls 6 [(0, .ref (ad k)), (1, .int a), (2, .int b), (3, .int c0), (4, .int d)] := hl
  have hN8 := hIV.1.2.1
  refine lv_aload_n hx hb dX6_way_0 rfl (lv_at hl 0 rfl) ?_
  refine lv_iconst (v := nI 0) hx hb dX6_way_1 (by decide) ?_
  refine g_put (κ := 10) (ci := 6) (v := nI 0) (ty := .int) (C := RX6) (T := TX6) (N := 8) hx hb hts hown hK hP hD hS (k := k) hk (by decide) rfl (fun _ h => List.mem_cons_of_mem _ (List.mem_append_right _ h)) tyX6 tyX6_ok nmX6 rfl 0 (by decide) (hts _ (List.mem_of_getElem? (i := 1) rfl)) (fun _ h9 => h9) rfl (by decide +kernel) rfl rfl (Nat.le_of_ble_eq_true rfl) rfl dX6_way_2 (fun u1 H locs hu1 hP hD hS => ?_)
  have hR1 : Rl z J k u1 N := by rw [hu1]; exact hRl.th _
  have hT1 : u1 k 0 = nI 0 := by rw [hu1]; exact wr_ss _ _ _ _
  skip
  refine lv_iload_n hx hb dX6_way_5 rfl (lv_at hl 1 rfl) ?_
  refine lv_iload_n hx hb dX6_way_6 rfl (lv_at hl 2 rfl) ?_
  refine g_callF (F := f_X6_isCell a b) hD hS hA (va_runS (As := [.int a, .int b]) (rest := []) ⟨hx, hb, hml, hown, hts⟩ (c_X6_isCell l D cs ad u1 H.size a b) (va_cwS 2 hts gX6_way_X6_isCell rfl rfl rfl (by decide +kernel) ⟨Nat.le_of_ble_eq_true rfl, Nat.le_of_ble_eq_true rfl⟩) (g_preS hP hD hK hN) rfl rfl hl.1 rfl (lv_room (Nat.le_of_ble_eq_true rfl)) dX6_way_7 ⟨Nat.le_of_ble_eq_true rfl, Nat.le_of_ble_eq_true rfl⟩) (fun H locs hP hD hS => ?_)
  refine lv_if_eq (tgt := 22) hx hb dX6_way_10 (by decide) (fun c_2 => ?_) (fun c_2 => ?_)
  · skip
    refine lv_aload_n hx hb dX6_way_22 rfl (lv_at hl 0 rfl) ?_
    refine lv_iconst (v := nI 1) hx hb dX6_way_23 (by decide) ?_
    refine g_callFM (F := f_X6_fail u1 k (nI 1)) (M := m_X6_fail u1 k (nI 1)) hD hS hA (va_runV (As := [.int (nI 1)]) (rest := []) ⟨hx, hb, hml, hown, hts⟩ (c_X6_fail l D cs ad u1 H.size k hk (nI 1)) (cwV 1 hts gX6_way_X6_fail rfl rfl rfl (by decide +kernel) ⟨Nat.le_of_ble_eq_true rfl, Nat.le_of_ble_eq_true rfl⟩) (g_preV hP hD hK hN (k := k) hk (by decide) rfl rfl rfl rfl) rfl rfl hl.1 rfl (lv_room (Nat.le_of_ble_eq_true rfl)) dX6_way_24 ⟨Nat.le_of_ble_eq_true rfl, Nat.le_of_ble_eq_true rfl⟩) (fun u3 H locs hu3 hP hD hS => ?_)
    exact g_iret (v := f_X6_fail u1 k (nI 1)) hx hb hr hlocks rfl hP hD hS (PoP.fail hR1 hu3 (two_0 (Or.inl c_2)) (by decide)) dX6_way_27
  · skip
    refine lv_iload_n hx hb dX6_way_13 rfl (lv_at hl 3 rfl) ?_
    refine lv_iload hx hb dX6_way_14 (lv_at hl 4 rfl) ?_
    refine g_callF (F := f_X6_isCell c0 d) hD hS hA (va_runS (As := [.int c0, .int d]) (rest := []) ⟨hx, hb, hml, hown, hts⟩ (c_X6_isCell l D cs ad u1 H.size c0 d) (va_cwS 2 hts gX6_way_X6_isCell rfl rfl rfl (by decide +kernel) ⟨Nat.le_of_ble_eq_true rfl, Nat.le_of_ble_eq_true rfl⟩) (g_preS hP hD hK hN) rfl rfl hl.1 rfl (lv_room (Nat.le_of_ble_eq_true rfl)) dX6_way_16 ⟨Nat.le_of_ble_eq_true rfl, Nat.le_of_ble_eq_true rfl⟩) (fun H locs hP hD hS => ?_)
    refine lv_if_ne (tgt := 28) hx hb dX6_way_19 (by decide) (fun c_4 => ?_) (fun c_4 => ?_)
    · skip
      refine lv_iload_n hx hb dX6_way_28 rfl (lv_at hl 1 rfl) ?_
      refine lv_bipush (v := nI 16) hx hb dX6_way_29 (by decide) ?_
      refine lv_iload_n hx hb dX6_way_31 rfl (lv_at hl 2 rfl) ?_
      refine lv_imul hx hb dX6_way_32 ?_
      refine lv_iadd hx hb dX6_way_33 ?_
      have h256 := pl_256 (cell_1 c_2)
      refine lv_topi (fun y9 ey9 => ?_)
      obtain rfl := ey9.trans (pl_x (cell_1 c_2))
      refine lv_istore (lv' := [(5, .int (nI (pl a b))), (0, .ref (ad k)), (1, .int a), (2, .int b), (3, .int c0), (4, .int d)]) hx hb dX6_way_34 hl (by decide) rfl (fun ls hl => ?_)
      refine lv_aload_n hx hb dX6_way_36 rfl (lv_at hl 1 rfl) ?_
      refine lv_iload hx hb dX6_way_37 (lv_at hl 0 rfl) ?_
      refine g_callF (F := f_X6_isOpen u1 k (pl a b)) hD hS hA (va_runV (As := [.int (nI (pl a b))]) (rest := []) ⟨hx, hb, hml, hown, hts⟩ (c_X6_isOpen l D cs ad u1 H.size k hk (pl a b) (by omega)) (cwV 1 hts gX6_way_X6_isOpen rfl rfl rfl (by decide +kernel) ⟨Nat.le_of_ble_eq_true rfl, Nat.le_of_ble_eq_true rfl⟩) (g_preV hP hD hK hN (k := k) hk (by decide) rfl rfl rfl rfl) rfl rfl hl.1 rfl (lv_room (Nat.le_of_ble_eq_true rfl)) dX6_way_39 ⟨Nat.le_of_ble_eq_true rfl, Nat.le_of_ble_eq_true rfl⟩) (fun H locs hP hD hS => ?_)
      refine lv_if_eq (tgt := 59) hx hb dX6_way_42 (by decide) (fun c_5 => ?_) (fun c_5 => ?_)
      · skip
        refine lv_iconst (v := -1) hx hb dX6_way_59 (by decide) ?_
        exact g_iret (v := -1) hx hb hr hlocks rfl hP hD hS (PoP.ok hR1 hT1 (two_1 c_2 c_4) (Or.inl ⟨hR1.open0 h256 c_5, rfl⟩)) dX6_way_60
      · skip
        refine lv_aload_n hx hb dX6_way_45 rfl (lv_at hl 1 rfl) ?_
        refine lv_iload_n hx hb dX6_way_46 rfl (lv_at hl 4 rfl) ?_
        refine lv_bipush (v := nI 16) hx hb dX6_way_47 (by decide) ?_
        refine lv_iload hx hb dX6_way_49 (lv_at hl 5 rfl) ?_
        refine lv_imul hx hb dX6_way_51 ?_
        refine lv_iadd hx hb dX6_way_52 ?_
        have h256b := pl_256 (cell_1 c_4)
        refine lv_topi (fun y9 ey9 => ?_)
        obtain rfl := ey9.trans (pl_x (cell_1 c_4))
        refine g_callF (F := f_X6_isOpen u1 k (pl c0 d)) hD hS hA (va_runV (As := [.int (nI (pl c0 d))]) (rest := []) ⟨hx, hb, hml, hown, hts⟩ (c_X6_isOpen l D cs ad u1 H.size k hk (pl c0 d) (by omega)) (cwV 1 hts gX6_way_X6_isOpen rfl rfl rfl (by decide +kernel) ⟨Nat.le_of_ble_eq_true rfl, Nat.le_of_ble_eq_true rfl⟩) (g_preV hP hD hK hN (k := k) hk (by decide) rfl rfl rfl rfl) rfl rfl hl.1 rfl (lv_room (Nat.le_of_ble_eq_true rfl)) dX6_way_53 ⟨Nat.le_of_ble_eq_true rfl, Nat.le_of_ble_eq_true rfl⟩) (fun H locs hP hD hS => ?_)
        refine lv_if_ne (tgt := 61) hx hb dX6_way_56 (by decide) (fun c_6 => ?_) (fun c_6 => ?_)
        · skip
          refine lv_aload_n hx hb dX6_way_61 rfl (lv_at hl 1 rfl) ?_
          refine g_callM (M := clrM u1 k 256) hD hS hA (va_runV (As := []) (rest := []) ⟨hx, hb, hml, hown, hts⟩ (c_X6_clear l D cs ad u1 H.size k hk) (cwV 0 hts gX6_way_X6_clear rfl rfl rfl (by decide +kernel) ⟨Nat.le_of_ble_eq_true rfl, Nat.le_of_ble_eq_true rfl⟩) (g_preV hP hD hK hN (k := k) hk (by decide) rfl rfl rfl rfl) rfl rfl hl.1 rfl (lv_room (Nat.le_of_ble_eq_true rfl)) dX6_way_62 ⟨Nat.le_of_ble_eq_true rfl, Nat.le_of_ble_eq_true rfl⟩) (fun u7 H locs hu7 hP hD hS => ?_)
          refine lv_aload_n hx hb dX6_way_65 rfl (lv_at hl 1 rfl) ?_
          refine g_get (κ := 10) (ci := 6) (v := .ref (ad (k + 6))) (C := RX6) (T := TX6) (N := 8) hx hb hts hown hK hP (k := k) hk (by decide) rfl (fun _ h => List.mem_cons_of_mem _ (List.mem_append_right _ h)) rfl 7 (by decide) (hts _ (List.mem_of_getElem? (i := 2) rfl)) (fun _ h9 => h9) rfl dX6_way_66 ?_
          refine lv_iload hx hb dX6_way_69 (lv_at hl 0 rfl) ?_
          refine lv_iconst (v := nI 0) hx hb dX6_way_71 (by decide) ?_
          refine g_iastn (n := 256) (i := (pl a b)) hx hb hK hP hD hS (k := (k + 6)) (kd_10_7 hk) (by decide) (fun _ => rfl) (by omega) (by decide) dX6_way_72 (fun u8 H locs hu8 hP hD hS => ?_)
          have hsv : SV k u1 u8 (fun c => c = pl a b) := by rw [hu8, hu7]; exact (SV.clr (S := fun _ => False) (fun _ _ y => y)).add (fun c _ => ⟨Or.inr, fun y => y.elim False.elim id⟩)
          skip
          refine lv_aload_n hx hb dX6_way_73 rfl (lv_at hl 1 rfl) ?_
          refine lv_sipush (v := nI 256) hx hb dX6_way_74 (by decide) ?_
          refine g_callv hD hS hA (va_runV (As := [.int (nI 256)]) (rest := []) ⟨hx, hb, hml, hown, hts⟩ (c_X6_spread l D cs ad u8 H.size k hk 256 (by omega) (opn J z) (fun c => c = pl a b) (fun c hc => by rw [opn, (hR1.eqw hsv.1).c1 hc]) (fun c hc => hsv.di hc)) (cwV 1 hts gX6_way_X6_spread rfl rfl rfl (by decide +kernel) ⟨Nat.le_of_ble_eq_true rfl, Nat.le_of_ble_eq_true rfl⟩) (g_preV hP hD hK hN (k := k) hk (by decide) rfl rfl rfl rfl) rfl rfl hl.1 rfl (lv_room (Nat.le_of_ble_eq_true rfl)) dX6_way_77 ⟨Nat.le_of_ble_eq_true rfl, Nat.le_of_ble_eq_true rfl⟩) (fun u9 H locs hu9 hP hD hS => ?_)
          refine lv_aload_n hx hb dX6_way_80 rfl (lv_at hl 1 rfl) ?_
          refine g_get (κ := 10) (ci := 6) (v := .ref (ad (k + 6))) (C := RX6) (T := TX6) (N := 8) hx hb hts hown hK hP (k := k) hk (by decide) rfl (fun _ h => List.mem_cons_of_mem _ (List.mem_append_right _ h)) rfl 7 (by decide) (hts _ (List.mem_of_getElem? (i := 2) rfl)) (fun _ h9 => h9) rfl dX6_way_81 ?_
          refine lv_iload_n hx hb dX6_way_84 rfl (lv_at hl 4 rfl) ?_
          refine lv_bipush (v := nI 16) hx hb dX6_way_85 (by decide) ?_
          refine lv_iload hx hb dX6_way_87 (lv_at hl 5 rfl) ?_
          refine lv_imul hx hb dX6_way_89 ?_
          refine lv_iadd hx hb dX6_way_90 ?_
          have h256b10 := pl_256 (cell_1 c_4)
          refine lv_topi (fun y9 ey9 => ?_)
          obtain rfl := ey9.trans (pl_x (cell_1 c_4))
          refine g_ialdn (n := 256) (i := (pl c0 d)) hx hb hK hP (k := (k + 6)) (kd_10_7 hk) (by decide) rfl (by omega) (by decide) dX6_way_91 ?_
          exact g_iret (v := u9 (k + 6) (pl c0 d)) hx hb hr hlocks rfl hP hD hS (PoP.ok ((hR1.eqw hsv.1).eqw hu9.1) ((congrFun ((hu9.1 k (by omega)).trans (hsv.1 k (by omega))) 0).trans hT1) (two_1 c_2 c_4) (Or.inr ⟨(hR1.open1 h256 c_5), hu9.2 _ h256b⟩)) dX6_way_92
        · skip
          refine lv_iconst (v := -1) hx hb dX6_way_59 (by decide) ?_
          exact g_iret (v := -1) hx hb hr hlocks rfl hP hD hS (PoP.ok hR1 hT1 (two_1 c_2 c_4) (Or.inr ⟨(hR1.open1 h256 c_5), way_no h256b (hR1.open1 h256 c_5) (hR1.open0 h256b c_6)⟩)) dX6_way_60
    · skip
      refine lv_aload_n hx hb dX6_way_22 rfl (lv_at hl 0 rfl) ?_
      refine lv_iconst (v := nI 1) hx hb dX6_way_23 (by decide) ?_
      refine g_callFM (F := f_X6_fail u1 k (nI 1)) (M := m_X6_fail u1 k (nI 1)) hD hS hA (va_runV (As := [.int (nI 1)]) (rest := []) ⟨hx, hb, hml, hown, hts⟩ (c_X6_fail l D cs ad u1 H.size k hk (nI 1)) (cwV 1 hts gX6_way_X6_fail rfl rfl rfl (by decide +kernel) ⟨Nat.le_of_ble_eq_true rfl, Nat.le_of_ble_eq_true rfl⟩) (g_preV hP hD hK hN (k := k) hk (by decide) rfl rfl rfl rfl) rfl rfl hl.1 rfl (lv_room (Nat.le_of_ble_eq_true rfl)) dX6_way_24 ⟨Nat.le_of_ble_eq_true rfl, Nat.le_of_ble_eq_true rfl⟩) (fun u11 H locs hu11 hP hD hS => ?_)
      exact g_iret (v := f_X6_fail u1 k (nI 1)) hx hb hr hlocks rfl hP hD hS (PoP.fail hR1 hu11 (two_0 (Or.inr ⟨c_2, c_4⟩)) (by decide)) dX6_way_27
