section PUB
variable {z k N : Nat} {J I v : Mm}
theorem rng_0 {α : Type} {a lo hi : Int32} {t s : α} (h : f_X6_isIn a lo hi = 0) : (if a < lo then t else if a ≤ hi then s else t) = t := by
  simp only [f_X6_isIn] at h
  by_cases h1 : a < lo
  · rw [if_pos h1]
  · rw [if_neg h1]
    rw [if_neg h1] at h
    by_cases h2 : hi < a
    · rw [if_neg (Int32.not_le.mpr h2)]
    · rw [if_neg h2] at h; exact absurd h (by decide)
theorem in_1 {a lo hi : Int32} (h : ¬ f_X6_isIn a lo hi = 0) : ¬ a < lo ∧ a ≤ hi := by
  simp only [f_X6_isIn] at h
  by_cases h1 : a < lo
  · rw [if_pos h1] at h; exact absurd rfl h
  · rw [if_neg h1] at h
    by_cases h2 : hi < a
    · rw [if_pos h2] at h; exact absurd rfl h
    · exact ⟨h1, Int32.not_lt.mp h2⟩
theorem rng_1 {α : Type} {a lo hi : Int32} {t s : α} (h : ¬ f_X6_isIn a lo hi = 0) : (if a < lo then t else if a ≤ hi then s else t) = s := by
  obtain ⟨h1, h2⟩ := in_1 h
  rw [if_neg h1, if_pos h2]
theorem in_n {a : Int32} {n : Nat} (hn : n < 2 ^ 31) (h : ¬ f_X6_isIn a (nI 0) (nI n) = 0) : a = nI a.toNatClampNeg ∧ a.toNatClampNeg ≤ n := by
  obtain ⟨h1, h2⟩ := in_1 h
  obtain ⟨j, hj, e⟩ := nI_of (x := a) h1
  subst e
  rw [nI_clamp hj]
  exact ⟨rfl, (nI_leI hj hn).mp h2⟩
theorem cell_1 {a b : Int32} (h : ¬ f_X6_isCell a b = 0) : th_X5_placeOf a b = 0 := by
  simp only [f_X6_isCell] at h
  by_cases h1 : f_X6_isIn a (nI 0) (nI 15) = 0
  · rw [if_pos h1] at h; exact absurd rfl h
  · rw [if_neg h1] at h
    by_cases h2 : f_X6_isIn b (nI 0) (nI 15) = 0
    · rw [if_pos h2] at h; exact absurd rfl h
    · obtain ⟨x, hx⟩ := in_n (by decide) h1
      obtain ⟨y, hy⟩ := in_n (by decide) h2
      have ht : ∀ x, x < 16 → ∀ y, y < 16 → th_X5_placeOf (nI x) (nI y) = 0 := by decide +kernel
      rw [x, y]; exact ht _ (by omega) _ (by omega)
theorem place_01 (a b : Int32) : th_X5_placeOf a b = 0 ∨ th_X5_placeOf a b = 1 := by
  simp only [th_X5_placeOf]
  repeat' split
  all_goals first | exact Or.inl rfl | exact Or.inr rfl
theorem cell_0 {a b : Int32} (h : f_X6_isCell a b = 0) : th_X5_placeOf a b = 1 := by
  rcases place_01 a b with e | e
  · obtain ⟨x, y, hx, hy, rfl, rfl, -⟩ := pl_in e
    have ht : ∀ x, x < 16 → ∀ y, y < 16 → ¬ f_X6_isCell (nI x) (nI y) = 0 := by decide +kernel
    exact absurd h (ht x hx y hy)
  · exact e
theorem pl_x {a b : Int32} (h : th_X5_placeOf a b = 0) : a + nI 16 * b = nI (pl a b) := by
  obtain ⟨x, y, hx, hy, e1, e2, e⟩ := pl_in h
  rw [← pl_nI h, e, e1, e2]
  exact pl_all x hx y hy
theorem Rl.th (h : Rl z J k I N) (x : Int32) : Rl z J k (wr I k 0 x) N := by
  obtain ⟨a, b, c, d, e⟩ := h
  refine ⟨by rw [wr_sn _ _ _ (by decide)]; exact a, fun j hj q hq => by rw [wr_n _ _ _ (by omega)]; exact b j hj q hq, by rw [wr_n _ _ _ (by omega)]; exact c, by rw [wr_n _ _ _ (by omega)]; exact d, by rw [wr_n _ _ _ (by omega)]; exact e⟩
theorem man_1 {a : Int32} (hN : N ≤ 8) (h : ¬ f_X6_isMan I k a N = 0) (q : Nat) : th_X5_member q a N = 0 := by
  simp only [f_X6_isMan] at h
  obtain ⟨h1, h2⟩ := in_1 h
  rw [th_mem hN, if_neg (show ¬ a < 0 from h1)]
  obtain ⟨j, hj, e⟩ := nI_of (x := a) h1
  subst e
  by_cases h0 : N = 0
  · subst h0
    have : ∀ x : Int32, ¬ x < 0 → ¬ x ≤ nI 0 - nI 1 := fun x hx hy => hx (Int32.lt_of_le_of_lt hy (by decide))
    exact absurd h2 (this _ h1)
  · rw [pk_sub (by omega)] at h2
    have := (nI_leI hj (by omega)).mp h2
    rw [if_neg (fun y => absurd ((nI_leI (by omega) hj).mp y) (by omega))]
theorem man_0 {a : Int32} (hN : N ≤ 8) (h : f_X6_isMan I k a N = 0) (q : Nat) : th_X5_member q a N = 1 := by
  rw [th_mem hN]
  by_cases h1 : a < 0
  · rw [if_pos h1]
  · rw [if_neg h1]
    by_cases h2 : nI N ≤ a
    · rw [if_pos h2]
    · refine absurd h ?_
      obtain ⟨j, hj, e⟩ := nI_of h1
      subst e
      have hjn : j < N := Nat.lt_of_not_le fun y => h2 (nI_le y hj)
      simp only [f_X6_isMan, f_X6_isIn]
      rw [if_neg (show ¬ nI j < nI 0 from h1), pk_sub (by omega), if_neg (fun y => absurd ((nI_ltI (by omega) hj).mp y) (by omega))]
      decide
theorem th_le (q : Nat) (a : Int32) (N : Nat) : th_X5_member q a N = th_X5_member 0 a N := rfl
def thZ_lay (J : Mm) (z N : Nat) (a b c0 : Int32) : Nat := if th_X5_placeOf a b = 0 then (if c0 < 0 then 2 else (if c0 ≤ nI 10 then (if f_X0_crewAt J z (nI (pl a b)) N ≤ 0 then 0 else 3) else 2)) else th_X5_placeOf a b
def mZ_lay (J : Mm) (z N : Nat) (a b c0 : Int32) : Mm := if thZ_lay J z N a b c0 = 0 then m_X3_put J (z + 1) (nI (pl a b)) c0 else J
def thZ_cell (a b c0 : Int32) : Nat := if th_X5_placeOf a b = 0 then (if c0 < 0 then 1 else (if c0 ≤ nI 5 then 0 else 1)) else th_X5_placeOf a b
def thZ_in (a : Int32) (n t : Nat) : Nat := if a < 0 then t else (if a ≤ nI n then 0 else t)
def thZ_tun (N : Nat) (a b : Int32) : Nat := if th_X5_member 0 a N = 0 then thZ_in b 8 1 else th_X5_member 0 a N
theorem in_z0 {a : Int32} {n t : Nat} (h : f_X6_isIn a (nI 0) (nI n) = 0) : thZ_in a n t = t := rng_0 (lo := nI 0) h
theorem in_z1 {a : Int32} {n t : Nat} (h : ¬ f_X6_isIn a (nI 0) (nI n) = 0) : thZ_in a n t = 0 := rng_1 (lo := nI 0) h
/-- what a call of the model leaves -/
def Po (z k : Nat) (J' : Mm) (N' t : Nat) (F r : Int32) (u : Mm) : Prop := Rl z J' k u N' ∧ u k 0 = nI t ∧ (t = 0 → r = F)
theorem Po.fail {t n : Nat} {F r : Int32} {u : Mm} (h : Rl z J k I N) (e : u = m_X6_fail I k (nI n)) (ht : t = n) (h0 : n ≠ 0) : Po z k J N t F r u := by
  refine ⟨?_, ?_, fun y => absurd (ht.symm.trans y) h0⟩
  · rw [e]; exact h.th _
  · rw [e, ht]; exact wr_ss _ _ _ _
theorem Po.ok {t : Nat} {F r : Int32} {u : Mm} (h : Rl z J k u N) (h0 : u k 0 = nI 0) (ht : t = 0) (e : r = F) : Po z k J N t F r u := ⟨h, by rw [ht]; exact h0, fun _ => e⟩
end PUB

set_option maxHeartbeats 4000000 in
set_option maxRecDepth 100000 in
theorem c_X6_lay_ (l : Launch) (D : va_G) (cs : Nat → ClassId) (ad : Nat → Nat) (I : Mm) (sz : Nat) (k : Nat) (hk : kM.getD k 0 = 10) (a : Int32) (b : Int32) (c0 : Int32) (z : Nat) (J : Mm) (N : Nat) (hRl : Rl z J k I N) (hIV : IV J z N) : MetI l yX6_lay_ wsX6_lay_ ({ frames := 3, cells := 0, slots := 0, locals := 67 }) kM cs D ad I sz [.ref (ad k), .int a, .int b, .int c0] (fun r u => Po z k (mZ_lay J z N a b c0) N (thZ_lay J z N a b c0) (J (z + 1 + 1) (pl a b)) r u) 0 0 := by
  refine g_met (cc := cX6_lay_) (maxL := 6) (ret := (some .int)) (by decide) rfl (Nat.le_of_ble_eq_true rfl) ?_
  intro pg e s m args below meth c ls hx hb hr hml hts hown hlocks hsz hP hD hK hN hS hA hl
  have hown : s.vm.findClass RX6 = some m.cls := hown
  have hl : lv_has ls 6 [(0, .ref (ad k)), (1, .int a), (2, .int b), (3, .int c0)] := hl
  have hN8 := hIV.1.2.1
  refine lv_aload_n hx hb dX6_lay__0 rfl (lv_at hl 0 rfl) ?_
  refine lv_iconst (v := nI 0) hx hb dX6_lay__1 (by decide) ?_
  refine g_put (κ := 10) (ci := 6) (v := nI 0) (ty := .int) (C := RX6) (T := TX6) (N := 8) hx hb hts hown hK hP hD hS (k := k) hk (by decide) rfl (fun _ h => List.mem_cons_of_mem _ (List.mem_append_right _ h)) tyX6 tyX6_ok nmX6 rfl 0 (by decide) (hts _ (List.mem_of_getElem? (i := 1) rfl)) (fun _ h9 => h9) rfl (by decide +kernel) rfl rfl (Nat.le_of_ble_eq_true rfl) rfl dX6_lay__2 (fun u1 H locs hu1 hP hD hS => ?_)
  have hR1 : Rl z J k u1 N := by rw [hu1]; exact hRl.th _
  have hT1 : u1 k 0 = nI 0 := by rw [hu1]; exact wr_ss _ _ _ _
  skip
  refine lv_iload_n hx hb dX6_lay__5 rfl (lv_at hl 1 rfl) ?_
  refine lv_iload_n hx hb dX6_lay__6 rfl (lv_at hl 2 rfl) ?_
  refine g_callF (F := f_X6_isCell a b) hD hS hA (va_runS (As := [.int a, .int b]) (rest := []) ⟨hx, hb, hml, hown, hts⟩ (c_X6_isCell l D cs ad u1 H.size a b) (va_cwS 2 hts gX6_lay__X6_isCell rfl rfl rfl (by decide +kernel) ⟨Nat.le_of_ble_eq_true rfl, Nat.le_of_ble_eq_true rfl⟩) (g_preS hP hD hK hN) rfl rfl hl.1 rfl (lv_room (Nat.le_of_ble_eq_true rfl)) dX6_lay__7 ⟨Nat.le_of_ble_eq_true rfl, Nat.le_of_ble_eq_true rfl⟩) (fun H locs hP hD hS => ?_)
  refine lv_if_ne (tgt := 19) hx hb dX6_lay__10 (by decide) (fun c_2 => ?_) (fun c_2 => ?_)
  · skip
    refine lv_iload_n hx hb dX6_lay__19 rfl (lv_at hl 3 rfl) ?_
    refine lv_iconst (v := nI 0) hx hb dX6_lay__20 (by decide) ?_
    refine lv_bipush (v := nI 10) hx hb dX6_lay__21 (by decide) ?_
    refine g_callF (F := f_X6_isIn c0 (nI 0) (nI 10)) hD hS hA (va_runS (As := [.int c0, .int (nI 0), .int (nI 10)]) (rest := []) ⟨hx, hb, hml, hown, hts⟩ (c_X6_isIn l D cs ad u1 H.size c0 (nI 0) (nI 10)) (va_cwS 3 hts gX6_lay__X6_isIn rfl rfl rfl (by decide +kernel) ⟨Nat.le_of_ble_eq_true rfl, Nat.le_of_ble_eq_true rfl⟩) (g_preS hP hD hK hN) rfl rfl hl.1 rfl (lv_room (Nat.le_of_ble_eq_true rfl)) dX6_lay__23 ⟨Nat.le_of_ble_eq_true rfl, Nat.le_of_ble_eq_true rfl⟩) (fun H locs hP hD hS => ?_)
    refine lv_if_ne (tgt := 35) hx hb dX6_lay__26 (by decide) (fun c_3 => ?_) (fun c_3 => ?_)
    · skip
      refine lv_iload_n hx hb dX6_lay__35 rfl (lv_at hl 1 rfl) ?_
      refine lv_bipush (v := nI 16) hx hb dX6_lay__36 (by decide) ?_
      refine lv_iload_n hx hb dX6_lay__38 rfl (lv_at hl 2 rfl) ?_
      refine lv_imul hx hb dX6_lay__39 ?_
      refine lv_iadd hx hb dX6_lay__40 ?_
      have h256 := pl_256 (cell_1 c_2)
      refine lv_topi (fun y9 ey9 => ?_)
      obtain rfl := ey9.trans (pl_x (cell_1 c_2))
      refine lv_istore (lv' := [(4, .int (nI (pl a b))), (0, .ref (ad k)), (1, .int a), (2, .int b), (3, .int c0)]) hx hb dX6_lay__41 hl (by decide) rfl (fun ls hl => ?_)
      refine lv_aload_n hx hb dX6_lay__43 rfl (lv_at hl 1 rfl) ?_
      refine lv_iload hx hb dX6_lay__44 (lv_at hl 0 rfl) ?_
      refine lv_iconst (v := nI 0) hx hb dX6_lay__46 (by decide) ?_
      refine g_callF (F := pplF J z N (pl a b) (nI 0)) hD hS hA (va_runV (As := [.int (nI (pl a b)), .int (nI 0)]) (rest := []) ⟨hx, hb, hml, hown, hts⟩ (c_X6_peopleAt l D cs ad u1 H.size k hk (pl a b) (by omega) (nI 0) (by decide) z J N hR1 hIV) (cwV 2 hts gX6_lay__X6_peopleAt rfl rfl rfl (by decide +kernel) ⟨Nat.le_of_ble_eq_true rfl, Nat.le_of_ble_eq_true rfl⟩) (g_preV hP hD hK hN (k := k) hk (by decide) rfl rfl rfl rfl) rfl rfl hl.1 rfl (lv_room (Nat.le_of_ble_eq_true rfl)) dX6_lay__47 ⟨Nat.le_of_ble_eq_true rfl, Nat.le_of_ble_eq_true rfl⟩) (fun H locs hP hD hS => ?_)
      refine lv_if_le (tgt := 59) hx hb dX6_lay__50 (by decide) (fun c_4 => ?_) (fun c_4 => ?_)
      · skip
        refine lv_aload_n hx hb dX6_lay__59 rfl (lv_at hl 1 rfl) ?_
        refine g_get (κ := 10) (ci := 6) (v := .ref (ad (k + 1))) (C := RX6) (T := TX6) (N := 8) hx hb hts hown hK hP (k := k) hk (by decide) rfl (fun _ h => List.mem_cons_of_mem _ (List.mem_append_right _ h)) rfl 1 (by decide) (hts _ (List.mem_of_getElem? (i := 2) rfl)) (fun _ h9 => h9) rfl dX6_lay__60 ?_
        refine lv_iload hx hb dX6_lay__63 (lv_at hl 0 rfl) ?_
        refine g_ialdn (n := 256) (i := (pl a b)) hx hb hK hP (k := (k + 1)) (kd_10_1 hk) (by decide) rfl (by omega) (by decide) dX6_lay__65 ?_
        rw [show u1 (k + 1) (pl a b) = J (z + 1 + 1) (pl a b) from (hR1.c1 (by omega))]
        refine lv_istore (lv' := [(5, .int (J (z + 1 + 1) (pl a b))), (4, .int (nI (pl a b))), (0, .ref (ad k)), (1, .int a), (2, .int b), (3, .int c0)]) hx hb dX6_lay__66 hl (by decide) rfl (fun ls hl => ?_)
        refine lv_aload_n hx hb dX6_lay__68 rfl (lv_at hl 2 rfl) ?_
        refine lv_iload hx hb dX6_lay__69 (lv_at hl 1 rfl) ?_
        refine lv_iload_n hx hb dX6_lay__71 rfl (lv_at hl 5 rfl) ?_
        refine g_callM (M := m_X6_lay u1 k (pl a b) c0) hD hS hA (va_runV (As := [.int (nI (pl a b)), .int c0]) (rest := []) ⟨hx, hb, hml, hown, hts⟩ (c_X6_lay l D cs ad u1 H.size k hk (pl a b) (by omega) c0) (cwV 2 hts gX6_lay__X6_lay rfl rfl rfl (by decide +kernel) ⟨Nat.le_of_ble_eq_true rfl, Nat.le_of_ble_eq_true rfl⟩) (g_preV hP hD hK hN (k := k) hk (by decide) rfl rfl rfl rfl) rfl rfl hl.1 rfl (lv_room (Nat.le_of_ble_eq_true rfl)) dX6_lay__72 ⟨Nat.le_of_ble_eq_true rfl, Nat.le_of_ble_eq_true rfl⟩) (fun u5 H locs hu5 hP hD hS => ?_)
        refine lv_iload hx hb dX6_lay__75 (lv_at hl 0 rfl) ?_
        exact g_iret (v := J (z + 1 + 1) (pl a b)) hx hb hr hlocks rfl hP hD hS (have e9 : thZ_lay J z N a b c0 = 0 := (by simp only [thZ_lay]; rw [if_pos (cell_1 c_2)]; refine (rng_1 (lo := nI 0) c_3).trans ?_; rw [if_pos (by rw [← ppl0]; exact c_4)]); Po.ok (by simp only [mZ_lay]; rw [if_pos e9, hu5]; exact hR1.lay h256 _) (by rw [hu5]; simp only [m_X6_lay]; rw [wr_n _ _ _ (by omega), wr_n _ _ _ (by omega), wr_n _ _ _ (by omega)]; exact hT1) e9 rfl) dX6_lay__77
      · skip
        refine lv_aload_n hx hb dX6_lay__53 rfl (lv_at hl 1 rfl) ?_
        refine lv_iconst (v := nI 3) hx hb dX6_lay__54 (by decide) ?_
        refine g_callFM (F := f_X6_fail u1 k (nI 3)) (M := m_X6_fail u1 k (nI 3)) hD hS hA (va_runV (As := [.int (nI 3)]) (rest := []) ⟨hx, hb, hml, hown, hts⟩ (c_X6_fail l D cs ad u1 H.size k hk (nI 3)) (cwV 1 hts gX6_lay__X6_fail rfl rfl rfl (by decide +kernel) ⟨Nat.le_of_ble_eq_true rfl, Nat.le_of_ble_eq_true rfl⟩) (g_preV hP hD hK hN (k := k) hk (by decide) rfl rfl rfl rfl) rfl rfl hl.1 rfl (lv_room (Nat.le_of_ble_eq_true rfl)) dX6_lay__55 ⟨Nat.le_of_ble_eq_true rfl, Nat.le_of_ble_eq_true rfl⟩) (fun u6 H locs hu6 hP hD hS => ?_)
        exact g_iret (v := f_X6_fail u1 k (nI 3)) hx hb hr hlocks rfl hP hD hS (by rw [show (mZ_lay J z N a b c0) = J from (by simp only [mZ_lay]; rw [if_neg (by rw [show thZ_lay J z N a b c0 = 3 from (by simp only [thZ_lay]; rw [if_pos (cell_1 c_2)]; refine (rng_1 (lo := nI 0) c_3).trans ?_; rw [if_neg (by rw [← ppl0]; exact c_4)])]; decide)])]; exact Po.fail hR1 hu6 (by simp only [thZ_lay]; rw [if_pos (cell_1 c_2)]; refine (rng_1 (lo := nI 0) c_3).trans ?_; rw [if_neg (by rw [← ppl0]; exact c_4)]) (by decide)) dX6_lay__58
    · skip
      refine lv_aload_n hx hb dX6_lay__29 rfl (lv_at hl 0 rfl) ?_
      refine lv_iconst (v := nI 2) hx hb dX6_lay__30 (by decide) ?_
      refine g_callFM (F := f_X6_fail u1 k (nI 2)) (M := m_X6_fail u1 k (nI 2)) hD hS hA (va_runV (As := [.int (nI 2)]) (rest := []) ⟨hx, hb, hml, hown, hts⟩ (c_X6_fail l D cs ad u1 H.size k hk (nI 2)) (cwV 1 hts gX6_lay__X6_fail rfl rfl rfl (by decide +kernel) ⟨Nat.le_of_ble_eq_true rfl, Nat.le_of_ble_eq_true rfl⟩) (g_preV hP hD hK hN (k := k) hk (by decide) rfl rfl rfl rfl) rfl rfl hl.1 rfl (lv_room (Nat.le_of_ble_eq_true rfl)) dX6_lay__31 ⟨Nat.le_of_ble_eq_true rfl, Nat.le_of_ble_eq_true rfl⟩) (fun u7 H locs hu7 hP hD hS => ?_)
      exact g_iret (v := f_X6_fail u1 k (nI 2)) hx hb hr hlocks rfl hP hD hS (by rw [show (mZ_lay J z N a b c0) = J from (by simp only [mZ_lay]; rw [if_neg (by rw [show thZ_lay J z N a b c0 = 2 from (by simp only [thZ_lay]; rw [if_pos (cell_1 c_2)]; exact rng_0 (lo := nI 0) c_3)]; decide)])]; exact Po.fail hR1 hu7 (by simp only [thZ_lay]; rw [if_pos (cell_1 c_2)]; exact rng_0 (lo := nI 0) c_3) (by decide)) dX6_lay__34
  · skip
    refine lv_aload_n hx hb dX6_lay__13 rfl (lv_at hl 0 rfl) ?_
    refine lv_iconst (v := nI 1) hx hb dX6_lay__14 (by decide) ?_
    refine g_callFM (F := f_X6_fail u1 k (nI 1)) (M := m_X6_fail u1 k (nI 1)) hD hS hA (va_runV (As := [.int (nI 1)]) (rest := []) ⟨hx, hb, hml, hown, hts⟩ (c_X6_fail l D cs ad u1 H.size k hk (nI 1)) (cwV 1 hts gX6_lay__X6_fail rfl rfl rfl (by decide +kernel) ⟨Nat.le_of_ble_eq_true rfl, Nat.le_of_ble_eq_true rfl⟩) (g_preV hP hD hK hN (k := k) hk (by decide) rfl rfl rfl rfl) rfl rfl hl.1 rfl (lv_room (Nat.le_of_ble_eq_true rfl)) dX6_lay__15 ⟨Nat.le_of_ble_eq_true rfl, Nat.le_of_ble_eq_true rfl⟩) (fun u8 H locs hu8 hP hD hS => ?_)
    exact g_iret (v := f_X6_fail u1 k (nI 1)) hx hb hr hlocks rfl hP hD hS (by rw [show (mZ_lay J z N a b c0) = J from (by simp only [mZ_lay]; rw [if_neg (by rw [show thZ_lay J z N a b c0 = 1 from (by simp only [thZ_lay]; rw [cell_0 c_2, if_neg (by decide)])]; decide)])]; exact Po.fail hR1 hu8 (by simp only [thZ_lay]; rw [cell_0 c_2, if_neg (by decide)]) (by decide)) dX6_lay__18

set_option maxHeartbeats 4000000 in
set_option maxRecDepth 100000 in
theorem c_X6_cell (l : Launch) (D : va_G) (cs : Nat → ClassId) (ad : Nat → Nat) (I : Mm) (sz : Nat) (k : Nat) (hk : kM.getD k 0 = 10) (a : Int32) (b : Int32) (c0 : Int32) (z : Nat) (J : Mm) (N : Nat) (hRl : Rl z J k I N) (hIV : IV J z N) : MetI l yX6_cell wsX6_cell ({ frames := 4, cells := 0, slots := 0, locals := 90 }) kM cs D ad I sz [.ref (ad k), .int a, .int b, .int c0] (fun r u => Po z k J N (thZ_cell a b c0) (cellF J z N (pl a b) c0) r u) 0 0 := by
  refine g_met (cc := cX6_cell) (maxL := 4) (ret := (some .int)) (by decide) rfl (Nat.le_of_ble_eq_true rfl) ?_
  intro pg e s m args below meth c ls hx hb hr hml hts hown hlocks hsz hP hD hK hN hS hA hl
  have hown : s.vm.findClass RX6 = some m.cls := hown
  have hl : lv_has ls 4 [(0, .ref (ad k)), (1, .int a), (2, .int b), (3, .int c0)] := hl
  have hN8 := hIV.1.2.1
  refine lv_aload_n hx hb dX6_cell_0 rfl (lv_at hl 0 rfl) ?_
  refine lv_iconst (v := nI 0) hx hb dX6_cell_1 (by decide) ?_
  refine g_put (κ := 10) (ci := 6) (v := nI 0) (ty := .int) (C := RX6) (T := TX6) (N := 8) hx hb hts hown hK hP hD hS (k := k) hk (by decide) rfl (fun _ h => List.mem_cons_of_mem _ (List.mem_append_right _ h)) tyX6 tyX6_ok nmX6 rfl 0 (by decide) (hts _ (List.mem_of_getElem? (i := 1) rfl)) (fun _ h9 => h9) rfl (by decide +kernel) rfl rfl (Nat.le_of_ble_eq_true rfl) rfl dX6_cell_2 (fun u1 H locs hu1 hP hD hS => ?_)
  have hR1 : Rl z J k u1 N := by rw [hu1]; exact hRl.th _
  have hT1 : u1 k 0 = nI 0 := by rw [hu1]; exact wr_ss _ _ _ _
  skip
  refine lv_iload_n hx hb dX6_cell_5 rfl (lv_at hl 1 rfl) ?_
  refine lv_iload_n hx hb dX6_cell_6 rfl (lv_at hl 2 rfl) ?_
  refine g_callF (F := f_X6_isCell a b) hD hS hA (va_runS (As := [.int a, .int b]) (rest := []) ⟨hx, hb, hml, hown, hts⟩ (c_X6_isCell l D cs ad u1 H.size a b) (va_cwS 2 hts gX6_cell_X6_isCell rfl rfl rfl (by decide +kernel) ⟨Nat.le_of_ble_eq_true rfl, Nat.le_of_ble_eq_true rfl⟩) (g_preS hP hD hK hN) rfl rfl hl.1 rfl (lv_room (Nat.le_of_ble_eq_true rfl)) dX6_cell_7 ⟨Nat.le_of_ble_eq_true rfl, Nat.le_of_ble_eq_true rfl⟩) (fun H locs hP hD hS => ?_)
  refine lv_if_eq (tgt := 36) hx hb dX6_cell_10 (by decide) (fun c_2 => ?_) (fun c_2 => ?_)
  · skip
    refine lv_aload_n hx hb dX6_cell_36 rfl (lv_at hl 0 rfl) ?_
    refine lv_iconst (v := nI 1) hx hb dX6_cell_37 (by decide) ?_
    refine g_callFM (F := f_X6_fail u1 k (nI 1)) (M := m_X6_fail u1 k (nI 1)) hD hS hA (va_runV (As := [.int (nI 1)]) (rest := []) ⟨hx, hb, hml, hown, hts⟩ (c_X6_fail l D cs ad u1 H.size k hk (nI 1)) (cwV 1 hts gX6_cell_X6_fail rfl rfl rfl (by decide +kernel) ⟨Nat.le_of_ble_eq_true rfl, Nat.le_of_ble_eq_true rfl⟩) (g_preV hP hD hK hN (k := k) hk (by decide) rfl rfl rfl rfl) rfl rfl hl.1 rfl (lv_room (Nat.le_of_ble_eq_true rfl)) dX6_cell_38 ⟨Nat.le_of_ble_eq_true rfl, Nat.le_of_ble_eq_true rfl⟩) (fun u3 H locs hu3 hP hD hS => ?_)
    exact g_iret (v := f_X6_fail u1 k (nI 1)) hx hb hr hlocks rfl hP hD hS (Po.fail hR1 hu3 (by simp only [thZ_cell]; rw [cell_0 c_2, if_neg (by decide)]) (by decide)) dX6_cell_41
  · skip
    refine lv_iload_n hx hb dX6_cell_13 rfl (lv_at hl 3 rfl) ?_
    refine lv_iconst (v := nI 0) hx hb dX6_cell_14 (by decide) ?_
    refine lv_iconst (v := nI 5) hx hb dX6_cell_15 (by decide) ?_
    refine g_callF (F := f_X6_isIn c0 (nI 0) (nI 5)) hD hS hA (va_runS (As := [.int c0, .int (nI 0), .int (nI 5)]) (rest := []) ⟨hx, hb, hml, hown, hts⟩ (c_X6_isIn l D cs ad u1 H.size c0 (nI 0) (nI 5)) (va_cwS 3 hts gX6_cell_X6_isIn rfl rfl rfl (by decide +kernel) ⟨Nat.le_of_ble_eq_true rfl, Nat.le_of_ble_eq_true rfl⟩) (g_preS hP hD hK hN) rfl rfl hl.1 rfl (lv_room (Nat.le_of_ble_eq_true rfl)) dX6_cell_16 ⟨Nat.le_of_ble_eq_true rfl, Nat.le_of_ble_eq_true rfl⟩) (fun H locs hP hD hS => ?_)
    refine lv_if_eq (tgt := 36) hx hb dX6_cell_19 (by decide) (fun c_4 => ?_) (fun c_4 => ?_)
    · skip
      refine lv_aload_n hx hb dX6_cell_36 rfl (lv_at hl 0 rfl) ?_
      refine lv_iconst (v := nI 1) hx hb dX6_cell_37 (by decide) ?_
      refine g_callFM (F := f_X6_fail u1 k (nI 1)) (M := m_X6_fail u1 k (nI 1)) hD hS hA (va_runV (As := [.int (nI 1)]) (rest := []) ⟨hx, hb, hml, hown, hts⟩ (c_X6_fail l D cs ad u1 H.size k hk (nI 1)) (cwV 1 hts gX6_cell_X6_fail rfl rfl rfl (by decide +kernel) ⟨Nat.le_of_ble_eq_true rfl, Nat.le_of_ble_eq_true rfl⟩) (g_preV hP hD hK hN (k := k) hk (by decide) rfl rfl rfl rfl) rfl rfl hl.1 rfl (lv_room (Nat.le_of_ble_eq_true rfl)) dX6_cell_38 ⟨Nat.le_of_ble_eq_true rfl, Nat.le_of_ble_eq_true rfl⟩) (fun u5 H locs hu5 hP hD hS => ?_)
      exact g_iret (v := f_X6_fail u1 k (nI 1)) hx hb hr hlocks rfl hP hD hS (Po.fail hR1 hu5 (by simp only [thZ_cell]; rw [if_pos (cell_1 c_2)]; exact rng_0 (lo := nI 0) c_4) (by decide)) dX6_cell_41
    · skip
      refine lv_aload_n hx hb dX6_cell_22 rfl (lv_at hl 0 rfl) ?_
      refine lv_iload_n hx hb dX6_cell_23 rfl (lv_at hl 1 rfl) ?_
      refine lv_bipush (v := nI 16) hx hb dX6_cell_24 (by decide) ?_
      refine lv_iload_n hx hb dX6_cell_26 rfl (lv_at hl 2 rfl) ?_
      refine lv_imul hx hb dX6_cell_27 ?_
      refine lv_iadd hx hb dX6_cell_28 ?_
      have h256 := pl_256 (cell_1 c_2)
      refine lv_topi (fun y9 ey9 => ?_)
      obtain rfl := ey9.trans (pl_x (cell_1 c_2))
      refine lv_iload_n hx hb dX6_cell_29 rfl (lv_at hl 3 rfl) ?_
      have hn5 := (in_n (n := 5) (by decide) c_4).2
      have hn_c0 := in_n (n := 5) (by decide) c_4
      refine lv_topi (fun y9 ey9 => ?_)
      obtain rfl := ey9.trans hn_c0.1
      refine g_calli hD hS hA (va_runV (As := [.int (nI (pl a b)), .int (nI c0.toNatClampNeg)]) (rest := []) ⟨hx, hb, hml, hown, hts⟩ (c_X6_cellTold l D cs ad u1 H.size k hk (pl a b) (by omega) c0.toNatClampNeg (by omega) z J N hR1 hIV) (cwV 2 hts gX6_cell_X6_cellTold rfl rfl rfl (by decide +kernel) ⟨Nat.le_of_ble_eq_true rfl, Nat.le_of_ble_eq_true rfl⟩) (g_preV hP hD hK hN (k := k) hk (by decide) rfl rfl rfl rfl) rfl rfl hl.1 rfl (lv_room (Nat.le_of_ble_eq_true rfl)) dX6_cell_30 ⟨Nat.le_of_ble_eq_true rfl, Nat.le_of_ble_eq_true rfl⟩) (fun ru6 u6 H locs hu6 hP hD hS => ?_)
      obtain ⟨hu6, hru6⟩ := hu6
      rw [hru6]
      refine lv_goto (tgt := 41) hx hb dX6_cell_33 (by decide) ?_
      exact g_iret (v := cellF J z N (pl a b) (nI c0.toNatClampNeg)) hx hb hr hlocks rfl hP hD hS (Po.ok (hR1.eqw hu6) ((congrFun (hu6 k (by omega)) 0).trans hT1) (by simp only [thZ_cell]; rw [if_pos (cell_1 c_2)]; exact rng_1 (lo := nI 0) c_4) (by rw [← (in_n (n := 5) (by decide) c_4).1])) dX6_cell_41

set_option maxHeartbeats 4000000 in
set_option maxRecDepth 100000 in
theorem c_X6_call (l : Launch) (D : va_G) (cs : Nat → ClassId) (ad : Nat → Nat) (I : Mm) (sz : Nat) (k : Nat) (hk : kM.getD k 0 = 10) (a : Int32) (z : Nat) (J : Mm) (N : Nat) (hRl : Rl z J k I N) (hIV : IV J z N) : MetI l yX6_call wsX6_call ({ frames := 2, cells := 0, slots := 0, locals := 43 }) kM cs D ad I sz [.ref (ad k), .int a] (fun r u => Po z k (if th_X5_member 0 a N = 0 then wr J (z + 8 + (1 + a.toNatClampNeg)) 7 (nI 0) else J) N (th_X5_member 0 a N) (J (z + 8 + (1 + a.toNatClampNeg)) 7) r u) 0 0 := by
  refine g_met (cc := cX6_call) (maxL := 3) (ret := (some .int)) (by decide) rfl (Nat.le_of_ble_eq_true rfl) ?_
  intro pg e s m args below meth c ls hx hb hr hml hts hown hlocks hsz hP hD hK hN hS hA hl
  have hown : s.vm.findClass RX6 = some m.cls := hown
  have hl : lv_has ls 3 [(0, .ref (ad k)), (1, .int a)] := hl
  have hN8 := hIV.1.2.1
  refine lv_aload_n hx hb dX6_call_0 rfl (lv_at hl 0 rfl) ?_
  refine lv_iconst (v := nI 0) hx hb dX6_call_1 (by decide) ?_
  refine g_put (κ := 10) (ci := 6) (v := nI 0) (ty := .int) (C := RX6) (T := TX6) (N := 8) hx hb hts hown hK hP hD hS (k := k) hk (by decide) rfl (fun _ h => List.mem_cons_of_mem _ (List.mem_append_right _ h)) tyX6 tyX6_ok nmX6 rfl 0 (by decide) (hts _ (List.mem_of_getElem? (i := 1) rfl)) (fun _ h9 => h9) rfl (by decide +kernel) rfl rfl (Nat.le_of_ble_eq_true rfl) rfl dX6_call_2 (fun u1 H locs hu1 hP hD hS => ?_)
  have hR1 : Rl z J k u1 N := by rw [hu1]; exact hRl.th _
  have hT1 : u1 k 0 = nI 0 := by rw [hu1]; exact wr_ss _ _ _ _
  skip
  refine lv_aload_n hx hb dX6_call_5 rfl (lv_at hl 0 rfl) ?_
  refine lv_iload_n hx hb dX6_call_6 rfl (lv_at hl 1 rfl) ?_
  refine g_callF (F := f_X6_isMan u1 k a N) hD hS hA (va_runV (As := [.int a]) (rest := []) ⟨hx, hb, hml, hown, hts⟩ (c_X6_isMan l D cs ad u1 H.size k hk a N hR1.n) (cwV 1 hts gX6_call_X6_isMan rfl rfl rfl (by decide +kernel) ⟨Nat.le_of_ble_eq_true rfl, Nat.le_of_ble_eq_true rfl⟩) (g_preV hP hD hK hN (k := k) hk (by decide) rfl rfl rfl rfl) rfl rfl hl.1 rfl (lv_room (Nat.le_of_ble_eq_true rfl)) dX6_call_7 ⟨Nat.le_of_ble_eq_true rfl, Nat.le_of_ble_eq_true rfl⟩) (fun H locs hP hD hS => ?_)
  refine lv_if_ne (tgt := 19) hx hb dX6_call_10 (by decide) (fun c_2 => ?_) (fun c_2 => ?_)
  · skip
    refine lv_aload_n hx hb dX6_call_19 rfl (lv_at hl 0 rfl) ?_
    refine lv_iload_n hx hb dX6_call_20 rfl (lv_at hl 1 rfl) ?_
    obtain ⟨hmma, hmmb, hmmc⟩ := mb_c hN8 (man_1 hN8 c_2 0)
    refine lv_topi (fun y9 ey9 => ?_)
    obtain rfl := ey9.trans hmmc
    refine lv_bipush (v := nI 6) hx hb dX6_call_21 (by decide) ?_
    refine g_callF (F := u1 (k + 4) (31 * a.toNatClampNeg + 6)) hD hS hA (va_runV (As := [.int (nI a.toNatClampNeg), .int (nI 6)]) (rest := []) ⟨hx, hb, hml, hown, hts⟩ (c_X6_get l D cs ad u1 H.size k hk a.toNatClampNeg (by omega) 6 (by omega)) (cwV 2 hts gX6_call_X6_get rfl rfl rfl (by decide +kernel) ⟨Nat.le_of_ble_eq_true rfl, Nat.le_of_ble_eq_true rfl⟩) (g_preV hP hD hK hN (k := k) hk (by decide) rfl rfl rfl rfl) rfl rfl hl.1 rfl (lv_room (Nat.le_of_ble_eq_true rfl)) dX6_call_23 ⟨Nat.le_of_ble_eq_true rfl, Nat.le_of_ble_eq_true rfl⟩) (fun H locs hP hD hS => ?_)
    rw [show u1 (k + 4) (31 * a.toNatClampNeg + 6) = J (z + 8 + (1 + a.toNatClampNeg)) 7 from (hR1.t6 (by omega))]
    refine lv_istore_n (lv' := [(2, .int (J (z + 8 + (1 + a.toNatClampNeg)) 7)), (0, .ref (ad k)), (1, .int a)]) hx hb dX6_call_26 rfl hl (by decide) rfl (fun ls hl => ?_)
    refine lv_aload_n hx hb dX6_call_27 rfl (lv_at hl 1 rfl) ?_
    refine lv_iload_n hx hb dX6_call_28 rfl (lv_at hl 2 rfl) ?_
    obtain ⟨hmna, hmnb, hmnc⟩ := mb_c hN8 (man_1 hN8 c_2 0)
    refine lv_topi (fun y9 ey9 => ?_)
    obtain rfl := ey9.trans hmnc
    refine lv_bipush (v := nI 6) hx hb dX6_call_29 (by decide) ?_
    refine lv_iconst (v := nI 0) hx hb dX6_call_31 (by decide) ?_
    refine g_callM (M := wr u1 (k + 4) (31 * a.toNatClampNeg + 6) (nI 0)) hD hS hA (va_runV (As := [.int (nI a.toNatClampNeg), .int (nI 6), .int (nI 0)]) (rest := []) ⟨hx, hb, hml, hown, hts⟩ (c_X6_set l D cs ad u1 H.size k hk a.toNatClampNeg (by omega) 6 (by omega) (nI 0)) (cwV 3 hts gX6_call_X6_set rfl rfl rfl (by decide +kernel) ⟨Nat.le_of_ble_eq_true rfl, Nat.le_of_ble_eq_true rfl⟩) (g_preV hP hD hK hN (k := k) hk (by decide) rfl rfl rfl rfl) rfl rfl hl.1 rfl (lv_room (Nat.le_of_ble_eq_true rfl)) dX6_call_32 ⟨Nat.le_of_ble_eq_true rfl, Nat.le_of_ble_eq_true rfl⟩) (fun u3 H locs hu3 hP hD hS => ?_)
    refine lv_iload_n hx hb dX6_call_35 rfl (lv_at hl 0 rfl) ?_
    exact g_iret (v := J (z + 8 + (1 + a.toNatClampNeg)) 7) hx hb hr hlocks rfl hP hD hS (Po.ok (by rw [if_pos (man_1 hN8 c_2 0), hu3]; exact hR1.w7 _ (by omega)) (by rw [hu3, wr_n _ _ _ (by omega)]; exact hT1) (man_1 hN8 c_2 0) rfl) dX6_call_36
  · skip
    refine lv_aload_n hx hb dX6_call_13 rfl (lv_at hl 0 rfl) ?_
    refine lv_iconst (v := nI 1) hx hb dX6_call_14 (by decide) ?_
    refine g_callFM (F := f_X6_fail u1 k (nI 1)) (M := m_X6_fail u1 k (nI 1)) hD hS hA (va_runV (As := [.int (nI 1)]) (rest := []) ⟨hx, hb, hml, hown, hts⟩ (c_X6_fail l D cs ad u1 H.size k hk (nI 1)) (cwV 1 hts gX6_call_X6_fail rfl rfl rfl (by decide +kernel) ⟨Nat.le_of_ble_eq_true rfl, Nat.le_of_ble_eq_true rfl⟩) (g_preV hP hD hK hN (k := k) hk (by decide) rfl rfl rfl rfl) rfl rfl hl.1 rfl (lv_room (Nat.le_of_ble_eq_true rfl)) dX6_call_15 ⟨Nat.le_of_ble_eq_true rfl, Nat.le_of_ble_eq_true rfl⟩) (fun u4 H locs hu4 hP hD hS => ?_)
    exact g_iret (v := f_X6_fail u1 k (nI 1)) hx hb hr hlocks rfl hP hD hS (by rw [show (if th_X5_member 0 a N = 0 then wr J (z + 8 + (1 + a.toNatClampNeg)) 7 (nI 0) else J) = J from (if_neg (by rw [man_0 hN8 c_2 0]; decide))]; exact Po.fail hR1 hu4 (man_0 hN8 c_2 0) (by decide)) dX6_call_18

set_option maxHeartbeats 4000000 in
set_option maxRecDepth 100000 in
theorem c_X6_tunneller (l : Launch) (D : va_G) (cs : Nat → ClassId) (ad : Nat → Nat) (I : Mm) (sz : Nat) (k : Nat) (hk : kM.getD k 0 = 10) (a : Int32) (b : Int32) (z : Nat) (J : Mm) (N : Nat) (hRl : Rl z J k I N) (hIV : IV J z N) : MetI l yX6_tunneller wsX6_tunneller ({ frames := 2, cells := 0, slots := 0, locals := 44 }) kM cs D ad I sz [.ref (ad k), .int a, .int b] (fun r u => Po z k J N (thZ_tun N a b) (tunF J (z + 8 + (1 + a.toNatClampNeg)) b) r u) 0 0 := by
  refine g_met (cc := cX6_tunneller) (maxL := 3) (ret := (some .int)) (by decide) rfl (Nat.le_of_ble_eq_true rfl) ?_
  intro pg e s m args below meth c ls hx hb hr hml hts hown hlocks hsz hP hD hK hN hS hA hl
  have hown : s.vm.findClass RX6 = some m.cls := hown
  have hl : lv_has ls 3 [(0, .ref (ad k)), (1, .int a), (2, .int b)] := hl
  have hN8 := hIV.1.2.1
  refine lv_aload_n hx hb dX6_tunneller_0 rfl (lv_at hl 0 rfl) ?_
  refine lv_iconst (v := nI 0) hx hb dX6_tunneller_1 (by decide) ?_
  refine g_put (κ := 10) (ci := 6) (v := nI 0) (ty := .int) (C := RX6) (T := TX6) (N := 8) hx hb hts hown hK hP hD hS (k := k) hk (by decide) rfl (fun _ h => List.mem_cons_of_mem _ (List.mem_append_right _ h)) tyX6 tyX6_ok nmX6 rfl 0 (by decide) (hts _ (List.mem_of_getElem? (i := 1) rfl)) (fun _ h9 => h9) rfl (by decide +kernel) rfl rfl (Nat.le_of_ble_eq_true rfl) rfl dX6_tunneller_2 (fun u1 H locs hu1 hP hD hS => ?_)
  have hR1 : Rl z J k u1 N := by rw [hu1]; exact hRl.th _
  have hT1 : u1 k 0 = nI 0 := by rw [hu1]; exact wr_ss _ _ _ _
  skip
  refine lv_aload_n hx hb dX6_tunneller_5 rfl (lv_at hl 0 rfl) ?_
  refine lv_iload_n hx hb dX6_tunneller_6 rfl (lv_at hl 1 rfl) ?_
  refine g_callF (F := f_X6_isMan u1 k a N) hD hS hA (va_runV (As := [.int a]) (rest := []) ⟨hx, hb, hml, hown, hts⟩ (c_X6_isMan l D cs ad u1 H.size k hk a N hR1.n) (cwV 1 hts gX6_tunneller_X6_isMan rfl rfl rfl (by decide +kernel) ⟨Nat.le_of_ble_eq_true rfl, Nat.le_of_ble_eq_true rfl⟩) (g_preV hP hD hK hN (k := k) hk (by decide) rfl rfl rfl rfl) rfl rfl hl.1 rfl (lv_room (Nat.le_of_ble_eq_true rfl)) dX6_tunneller_7 ⟨Nat.le_of_ble_eq_true rfl, Nat.le_of_ble_eq_true rfl⟩) (fun H locs hP hD hS => ?_)
  refine lv_if_eq (tgt := 32) hx hb dX6_tunneller_10 (by decide) (fun c_2 => ?_) (fun c_2 => ?_)
  · skip
    refine lv_aload_n hx hb dX6_tunneller_32 rfl (lv_at hl 0 rfl) ?_
    refine lv_iconst (v := nI 1) hx hb dX6_tunneller_33 (by decide) ?_
    refine g_callFM (F := f_X6_fail u1 k (nI 1)) (M := m_X6_fail u1 k (nI 1)) hD hS hA (va_runV (As := [.int (nI 1)]) (rest := []) ⟨hx, hb, hml, hown, hts⟩ (c_X6_fail l D cs ad u1 H.size k hk (nI 1)) (cwV 1 hts gX6_tunneller_X6_fail rfl rfl rfl (by decide +kernel) ⟨Nat.le_of_ble_eq_true rfl, Nat.le_of_ble_eq_true rfl⟩) (g_preV hP hD hK hN (k := k) hk (by decide) rfl rfl rfl rfl) rfl rfl hl.1 rfl (lv_room (Nat.le_of_ble_eq_true rfl)) dX6_tunneller_34 ⟨Nat.le_of_ble_eq_true rfl, Nat.le_of_ble_eq_true rfl⟩) (fun u3 H locs hu3 hP hD hS => ?_)
    exact g_iret (v := f_X6_fail u1 k (nI 1)) hx hb hr hlocks rfl hP hD hS (Po.fail hR1 hu3 (by simp only [thZ_tun]; rw [man_0 hN8 c_2 0, if_neg (by decide)]) (by decide)) dX6_tunneller_37
  · skip
    refine lv_iload_n hx hb dX6_tunneller_13 rfl (lv_at hl 2 rfl) ?_
    refine lv_iconst (v := nI 0) hx hb dX6_tunneller_14 (by decide) ?_
    refine lv_bipush (v := nI 8) hx hb dX6_tunneller_15 (by decide) ?_
    refine g_callF (F := f_X6_isIn b (nI 0) (nI 8)) hD hS hA (va_runS (As := [.int b, .int (nI 0), .int (nI 8)]) (rest := []) ⟨hx, hb, hml, hown, hts⟩ (c_X6_isIn l D cs ad u1 H.size b (nI 0) (nI 8)) (va_cwS 3 hts gX6_tunneller_X6_isIn rfl rfl rfl (by decide +kernel) ⟨Nat.le_of_ble_eq_true rfl, Nat.le_of_ble_eq_true rfl⟩) (g_preS hP hD hK hN) rfl rfl hl.1 rfl (lv_room (Nat.le_of_ble_eq_true rfl)) dX6_tunneller_17 ⟨Nat.le_of_ble_eq_true rfl, Nat.le_of_ble_eq_true rfl⟩) (fun H locs hP hD hS => ?_)
    refine lv_if_eq (tgt := 32) hx hb dX6_tunneller_20 (by decide) (fun c_4 => ?_) (fun c_4 => ?_)
    · skip
      refine lv_aload_n hx hb dX6_tunneller_32 rfl (lv_at hl 0 rfl) ?_
      refine lv_iconst (v := nI 1) hx hb dX6_tunneller_33 (by decide) ?_
      refine g_callFM (F := f_X6_fail u1 k (nI 1)) (M := m_X6_fail u1 k (nI 1)) hD hS hA (va_runV (As := [.int (nI 1)]) (rest := []) ⟨hx, hb, hml, hown, hts⟩ (c_X6_fail l D cs ad u1 H.size k hk (nI 1)) (cwV 1 hts gX6_tunneller_X6_fail rfl rfl rfl (by decide +kernel) ⟨Nat.le_of_ble_eq_true rfl, Nat.le_of_ble_eq_true rfl⟩) (g_preV hP hD hK hN (k := k) hk (by decide) rfl rfl rfl rfl) rfl rfl hl.1 rfl (lv_room (Nat.le_of_ble_eq_true rfl)) dX6_tunneller_34 ⟨Nat.le_of_ble_eq_true rfl, Nat.le_of_ble_eq_true rfl⟩) (fun u5 H locs hu5 hP hD hS => ?_)
      exact g_iret (v := f_X6_fail u1 k (nI 1)) hx hb hr hlocks rfl hP hD hS (Po.fail hR1 hu5 (by simp only [thZ_tun]; rw [if_pos (man_1 hN8 c_2 0)]; exact in_z0 c_4) (by decide)) dX6_tunneller_37
    · skip
      refine lv_aload_n hx hb dX6_tunneller_23 rfl (lv_at hl 0 rfl) ?_
      refine lv_iload_n hx hb dX6_tunneller_24 rfl (lv_at hl 1 rfl) ?_
      obtain ⟨hmma, hmmb, hmmc⟩ := mb_c hN8 (man_1 hN8 c_2 0)
      refine lv_topi (fun y9 ey9 => ?_)
      obtain rfl := ey9.trans hmmc
      refine lv_iload_n hx hb dX6_tunneller_25 rfl (lv_at hl 2 rfl) ?_
      have hn8 := (in_n (n := 8) (by decide) c_4).2
      have hn_b := in_n (n := 8) (by decide) c_4
      refine lv_topi (fun y9 ey9 => ?_)
      obtain rfl := ey9.trans hn_b.1
      refine g_callF (F := tunF J (z + 8 + (1 + a.toNatClampNeg)) (nI b.toNatClampNeg)) hD hS hA (va_runV (As := [.int (nI a.toNatClampNeg), .int (nI b.toNatClampNeg)]) (rest := []) ⟨hx, hb, hml, hown, hts⟩ (c_X6_manTold l D cs ad u1 H.size k hk a.toNatClampNeg (by omega) b.toNatClampNeg (by omega) z J N hR1 hIV hmmb) (cwV 2 hts gX6_tunneller_X6_manTold rfl rfl rfl (by decide +kernel) ⟨Nat.le_of_ble_eq_true rfl, Nat.le_of_ble_eq_true rfl⟩) (g_preV hP hD hK hN (k := k) hk (by decide) rfl rfl rfl rfl) rfl rfl hl.1 rfl (lv_room (Nat.le_of_ble_eq_true rfl)) dX6_tunneller_26 ⟨Nat.le_of_ble_eq_true rfl, Nat.le_of_ble_eq_true rfl⟩) (fun H locs hP hD hS => ?_)
      refine lv_goto (tgt := 37) hx hb dX6_tunneller_29 (by decide) ?_
      exact g_iret (v := tunF J (z + 8 + (1 + a.toNatClampNeg)) (nI b.toNatClampNeg)) hx hb hr hlocks rfl hP hD hS (Po.ok hR1 hT1 (by simp only [thZ_tun]; rw [if_pos (man_1 hN8 c_2 0)]; exact in_z1 c_4) (by rw [← (in_n (n := 8) (by decide) c_4).1])) dX6_tunneller_37

set_option maxHeartbeats 4000000 in
set_option maxRecDepth 100000 in
theorem c_X6_count (l : Launch) (D : va_G) (cs : Nat → ClassId) (ad : Nat → Nat) (I : Mm) (sz : Nat) (k : Nat) (hk : kM.getD k 0 = 10) (a : Int32) (z : Nat) (J : Mm) (N : Nat) (hRl : Rl z J k I N) (hIV : IV J z N) : MetI l yX6_count wsX6_count ({ frames := 5, cells := 0, slots := 0, locals := 114 }) kM cs D ad I sz [.ref (ad k), .int a] (fun r u => Po z k J N (thZ_in a 8 1) (countF J z N a) r u) 0 0 := by
  refine g_met (cc := cX6_count) (maxL := 2) (ret := (some .int)) (by decide) rfl (Nat.le_of_ble_eq_true rfl) ?_
  intro pg e s m args below meth c ls hx hb hr hml hts hown hlocks hsz hP hD hK hN hS hA hl
  have hown : s.vm.findClass RX6 = some m.cls := hown
  have hl : lv_has ls 2 [(0, .ref (ad k)), (1, .int a)] := hl
  have hN8 := hIV.1.2.1
  refine lv_aload_n hx hb dX6_count_0 rfl (lv_at hl 0 rfl) ?_
  refine lv_iconst (v := nI 0) hx hb dX6_count_1 (by decide) ?_
  refine g_put (κ := 10) (ci := 6) (v := nI 0) (ty := .int) (C := RX6) (T := TX6) (N := 8) hx hb hts hown hK hP hD hS (k := k) hk (by decide) rfl (fun _ h => List.mem_cons_of_mem _ (List.mem_append_right _ h)) tyX6 tyX6_ok nmX6 rfl 0 (by decide) (hts _ (List.mem_of_getElem? (i := 1) rfl)) (fun _ h9 => h9) rfl (by decide +kernel) rfl rfl (Nat.le_of_ble_eq_true rfl) rfl dX6_count_2 (fun u1 H locs hu1 hP hD hS => ?_)
  have hR1 : Rl z J k u1 N := by rw [hu1]; exact hRl.th _
  have hT1 : u1 k 0 = nI 0 := by rw [hu1]; exact wr_ss _ _ _ _
  skip
  refine lv_iload_n hx hb dX6_count_5 rfl (lv_at hl 1 rfl) ?_
  refine lv_iconst (v := nI 0) hx hb dX6_count_6 (by decide) ?_
  refine lv_bipush (v := nI 8) hx hb dX6_count_7 (by decide) ?_
  refine g_callF (F := f_X6_isIn a (nI 0) (nI 8)) hD hS hA (va_runS (As := [.int a, .int (nI 0), .int (nI 8)]) (rest := []) ⟨hx, hb, hml, hown, hts⟩ (c_X6_isIn l D cs ad u1 H.size a (nI 0) (nI 8)) (va_cwS 3 hts gX6_count_X6_isIn rfl rfl rfl (by decide +kernel) ⟨Nat.le_of_ble_eq_true rfl, Nat.le_of_ble_eq_true rfl⟩) (g_preS hP hD hK hN) rfl rfl hl.1 rfl (lv_room (Nat.le_of_ble_eq_true rfl)) dX6_count_9 ⟨Nat.le_of_ble_eq_true rfl, Nat.le_of_ble_eq_true rfl⟩) (fun H locs hP hD hS => ?_)
  refine lv_if_eq (tgt := 23) hx hb dX6_count_12 (by decide) (fun c_2 => ?_) (fun c_2 => ?_)
  · skip
    refine lv_aload_n hx hb dX6_count_23 rfl (lv_at hl 0 rfl) ?_
    refine lv_iconst (v := nI 1) hx hb dX6_count_24 (by decide) ?_
    refine g_callFM (F := f_X6_fail u1 k (nI 1)) (M := m_X6_fail u1 k (nI 1)) hD hS hA (va_runV (As := [.int (nI 1)]) (rest := []) ⟨hx, hb, hml, hown, hts⟩ (c_X6_fail l D cs ad u1 H.size k hk (nI 1)) (cwV 1 hts gX6_count_X6_fail rfl rfl rfl (by decide +kernel) ⟨Nat.le_of_ble_eq_true rfl, Nat.le_of_ble_eq_true rfl⟩) (g_preV hP hD hK hN (k := k) hk (by decide) rfl rfl rfl rfl) rfl rfl hl.1 rfl (lv_room (Nat.le_of_ble_eq_true rfl)) dX6_count_25 ⟨Nat.le_of_ble_eq_true rfl, Nat.le_of_ble_eq_true rfl⟩) (fun u3 H locs hu3 hP hD hS => ?_)
    exact g_iret (v := f_X6_fail u1 k (nI 1)) hx hb hr hlocks rfl hP hD hS (Po.fail hR1 hu3 (in_z0 c_2) (by decide)) dX6_count_28
  · skip
    refine lv_aload_n hx hb dX6_count_15 rfl (lv_at hl 0 rfl) ?_
    refine lv_iload_n hx hb dX6_count_16 rfl (lv_at hl 1 rfl) ?_
    have hn8 := (in_n (n := 8) (by decide) c_2).2
    have hn_a := in_n (n := 8) (by decide) c_2
    refine lv_topi (fun y9 ey9 => ?_)
    obtain rfl := ey9.trans hn_a.1
    refine g_calli hD hS hA (va_runV (As := [.int (nI a.toNatClampNeg)]) (rest := []) ⟨hx, hb, hml, hown, hts⟩ (c_X6_counted l D cs ad u1 H.size k hk a.toNatClampNeg (by omega) z J N hR1 hIV) (cwV 1 hts gX6_count_X6_counted rfl rfl rfl (by decide +kernel) ⟨Nat.le_of_ble_eq_true rfl, Nat.le_of_ble_eq_true rfl⟩) (g_preV hP hD hK hN (k := k) hk (by decide) rfl rfl rfl rfl) rfl rfl hl.1 rfl (lv_room (Nat.le_of_ble_eq_true rfl)) dX6_count_17 ⟨Nat.le_of_ble_eq_true rfl, Nat.le_of_ble_eq_true rfl⟩) (fun ru4 u4 H locs hu4 hP hD hS => ?_)
    obtain ⟨hu4, hru4⟩ := hu4
    rw [hru4]
    refine lv_goto (tgt := 28) hx hb dX6_count_20 (by decide) ?_
    exact g_iret (v := countF J z N (nI a.toNatClampNeg)) hx hb hr hlocks rfl hP hD hS (Po.ok (hR1.eqw hu4) ((congrFun (hu4 k (by omega)) 0).trans hT1) (in_z1 c_2) (by rw [← (in_n (n := 8) (by decide) c_2).1])) dX6_count_28
