/-- the cells of now are the same but for Reach's -/
def FX (k : Nat) (u v : Mm) : Prop := (∀ a, k + 1 ≤ a → a ≤ k + 25 → a ≠ k + 1 + 5 → a ≠ k + 1 + 5 + 1 → a ≠ k + 1 + 5 + 2 → u a = v a) ∧ RX (k + 1) u ∧ RX (k + 26) u
theorem FX.of {k : Nat} {u v : Mm} (h : EX (k + 1) u v) (h2 : RX (k + 26) v) : FX k u v :=
  ⟨fun a _ _ h3 h4 h5 => h.1 a h3 h4 h5, h.2, h2.eq (by rw [h.1 _ (by omega) (by omega) (by omega)]) (h.1 _ (by omega) (by omega) (by omega)) (h.1 _ (by omega) (by omega) (by omega))⟩
theorem FX.rf {k : Nat} {u : Mm} (h : RX (k + 1) u) (h2 : RX (k + 26) u) : FX k u u := ⟨fun _ _ _ _ _ _ => rfl, h, h2⟩
def litR (I : Mm) (z N : Nat) : Nat → Prop := rch (opn I z) (srL I z N) 3
/-- what cell() and count() call lit -/
def litC (I : Mm) (z N c : Nat) : Prop := I (z + 1 + 1) c ≠ nI 10 ∧ (litR I z N c ∨ (¬ opn I z c ∧ ∃ w, w < 4 ∧ nb c w < 256 ∧ litR I z N (nb c w)))
theorem oneIf_bi (b : Bool) : f_X5_oneIf (bi b) = bi b := by cases b <;> rfl
theorem bi_cd {P : Prop} {b : Bool} (h : b = true ↔ P) : bi b = bi (cd P) := by
  have e : b = cd P := by
    by_cases hp : P
    · rw [h.mpr hp, cd_t hp]
    · rw [cd_f hp]
      cases b with
      | false => rfl
      | true => exact absurd (h.mp rfl) hp
  rw [e]
theorem held_ans {I u : Mm} {z c : Nat} (h : HdP I z u) (hc : c < 256) : f_X5_oneIf (f_X1_holds u (z + 5) (nI c)) = bi (cd (heldP I z c)) := by
  rw [holds_in hc, oneIf_bi]
  exact bi_cd (by rw [decide_eq_true_iff]; exact h.2.2 c hc)
theorem ages_in {I : Mm} {k c : Nat} (hc : c < 256) : f_X3_ageAt I k (nI c) = I (k + 2) c := by
  simp only [f_X3_ageAt]
  rw [if_neg (nI_pos (by omega)), if_neg (fun z => absurd ((nI_leI (by decide) (by omega)).mp z) (by omega)), nI_clamp (by omega)]
theorem hB_out (u : Mm) (k : Nat) : hB u k (-1) = false := by
  apply hB_f
  have e : f_X1_stepsTo u k (-1) = -1 := by
    simp only [f_X1_stepsTo]
    rw [if_pos (show (-1 : Int32) < 0 by decide)]
  show (if f_X1_stepsTo u k (-1) = -1 then nI 0 else nI 1) = 0
  rw [if_pos e]; rfl
theorem hB_in {u : Mm} {k c : Nat} (hc : c < 256) : hB u k (nI c) = true ↔ u (k + 1) c ≠ -1 := by
  have h := hB_t (I := u) (k := k) (a := nI c)
  unfold hB
  rw [decide_eq_true_iff, holds_in hc]
  by_cases e : u (k + 1) c = -1
  · rw [decide_eq_false (fun y => y e)]; exact ⟨fun y => absurd rfl y, fun y => absurd e y⟩
  · rw [decide_eq_true e]; exact ⟨fun _ => e, fun _ => by decide⟩
theorem hB_nb {u : Mm} {k c w : Nat} (hc : c < 256) (hw : w < 4) : hB u k (f_X5_beside (nI c) (nI w)) = true ↔ (nb c w < 256 ∧ u (k + 1) (nb c w) ≠ -1) := by
  rw [bes_nb c hc w hw]
  by_cases e : nb c w < 256
  · rw [if_pos e, hB_in e]; exact ⟨fun y => ⟨e, y⟩, fun y => y.2⟩
  · rw [if_neg e, hB_out]; exact ⟨fun y => Bool.noConfusion y, fun y => absurd y.1 e⟩
theorem shL_ex {u : Mm} {z c : Nat} (hc : c < 256) : ∀ n, n ≤ 4 → (shL u z (nI c) n = true ↔ (u (z + 5 + 1) c ≠ -1 ∨ ∃ w, w < n ∧ nb c w < 256 ∧ u (z + 5 + 1) (nb c w) ≠ -1))
  | 0, _ => by
    simp only [shL]
    rw [hB_in hc]
    exact ⟨Or.inl, fun y => y.elim id (fun ⟨w, hw, _⟩ => absurd hw (Nat.not_lt_zero _))⟩
  | n + 1, hn => by
    simp only [shL]
    rw [Bool.or_eq_true, shL_ex hc n (by omega), hB_nb hc (by omega)]
    constructor
    · rintro ((y | ⟨w, h1, h2⟩) | y)
      · exact Or.inl y
      · exact Or.inr ⟨w, by omega, h2⟩
      · exact Or.inr ⟨n, by omega, y⟩
    · rintro (y | ⟨w, h1, h2⟩)
      · exact Or.inl (Or.inl y)
      · by_cases e : w = n
        · subst e; exact Or.inr h2
        · exact Or.inl (Or.inr ⟨w, by omega, h2⟩)
theorem shine_ans {I u : Mm} {z N c : Nat} (h : LtP I z N u) (hc : c < 256) : f_X0_shinesOn u z (nI c) = bi (cd (litC I z N c)) := by
  have e1 : u (z + 1 + 1) = I (z + 1 + 1) := h.1.s 1 (by decide)
  unfold f_X0_shinesOn
  rw [sort_in hc, open_in hc, e1]
  by_cases h10 : I (z + 1 + 1) c = nI 10
  · rw [if_pos h10, cd_f (fun y => y.1 h10)]; rfl
  · rw [if_neg h10]
    by_cases ho : I (z + 1 + 1) c = 0
    · rw [decide_eq_true ho, if_neg (by decide)]
      refine bi_cd ?_
      rw [hB_in hc, h.2.2 c hc]
      exact ⟨fun y => ⟨h10, Or.inl y⟩, fun y => y.2.elim id (fun y => absurd ho y.1)⟩
    · rw [decide_eq_false ho, if_pos (show bi false = 0 from rfl)]
      refine bi_cd ?_
      rw [shL_ex hc 4 (Nat.le_refl _), h.2.2 c hc]
      constructor
      · rintro (y | ⟨w, h1, h2, h3⟩)
        · exact ⟨h10, Or.inl y⟩
        · exact ⟨h10, Or.inr ⟨ho, w, h1, h2, (h.2.2 _ h2).mp h3⟩⟩
      · rintro ⟨-, y | ⟨-, w, h1, h2, h3⟩⟩
        · exact Or.inl y
        · exact Or.inr ⟨w, h1, h2, (h.2.2 _ h2).mpr h3⟩
noncomputable def cellF (I : Mm) (z N c : Nat) (w : Int32) : Int32 := if w = nI 0 then I (z + 1 + 1) c else if w = nI 1 then I (z + 1 + 2) c else if w = nI 2 then I (z + 1 + 3) c else if w = nI 3 then bi (cd (heldP I z c)) else if w = nI 4 then bi (cd (litC I z N c)) else f_X0_crewAt I z (nI c) N
noncomputable def countF (I : Mm) (z N : Nat) (w : Int32) : Int32 := if w = nI 0 then I z 4 else if w = nI 1 then I z 3 else if w = nI 2 then f_X0_buriedCrew I z N else if w = nI 3 then f_X3_openCells I (z + 1) else if w = nI 4 then f_X3_postsSet I (z + 1) else if w = nI 5 then I z 5 else if w = nI 6 then nI (cn (fun c => cd (litC I z N c)) 256) else if w = nI 7 then f_X3_openCells I (z + 1) - nI (cn (fun c => cd (heldP I z c)) 256) else I z 6
theorem cn_cd {p : Nat → Bool} {P : Nat → Prop} {n : Nat} (h : ∀ c, c < n → (p c = true ↔ P c)) : cn p n = cn (fun c => cd (P c)) n := cn_cg fun c hc => by
  by_cases hp : P c
  · rw [(h c hc).mpr hp, cd_t hp]
  · rw [cd_f hp]
    cases e : p c with
    | false => rfl
    | true => exact absurd ((h c hc).mp e) hp
theorem rq_cn {I u : Mm} {z : Nat} {P : Nat → Prop} (hR : ∃ n q, RQ u (z + 5) n q) (h : ∀ c, c < 256 → (u (z + 5 + 1) c ≠ -1 ↔ P c)) : u (z + 5) 2 = nI (cn (fun c => cd (P c)) 256) := by
  obtain ⟨n, q, a, b, -, -, -, -, e⟩ := hR
  rw [b, ← e]
  exact congrArg nI (cn_cd (fun c hc => by rw [decide_eq_true_iff]; exact h c hc))
theorem openCells_eq {z : Nat} {u v : Mm} (h : EqX z u v) : f_X3_openCells u (z + 1) = f_X3_openCells v (z + 1) := by
  simp only [f_X3_openCells, h.s 1 (by decide)]
theorem bur_eq {z N : Nat} {u v : Mm} (h : EqX z u v) : f_X0_buriedCrew u z N = f_X0_buriedCrew v z N := by simp only [f_X0_buriedCrew, vT h]
theorem opened_eq {z N : Nat} {u v : Mm} (h : EqX z u v) : f_X0_openedByCrew u z N = f_X0_openedByCrew v z N := by simp only [f_X0_openedByCrew, vT h]
theorem oil_eq {z N : Nat} {u v : Mm} (h : EqX z u v) : f_X0_oilOfCrew u z N = f_X0_oilOfCrew v z N := by simp only [f_X0_oilOfCrew, vT h]
theorem orders_eq {z N : Nat} {u v : Mm} (h : EqX z u v) : f_X0_ordersOfCrew u z N = f_X0_ordersOfCrew v z N := by simp only [f_X0_ordersOfCrew, vT h]
theorem tog_eq {z a b : Nat} {u v : Mm} (h : EqX z u v) : f_X0_areTogether u z a b = f_X0_areTogether v z a b := by simp only [f_X0_areTogether, vT h]
theorem loose_ans {I u : Mm} {z : Nat} (h : HdP I z u) : f_X3_openCells u (z + 1) - u (z + 5) 2 = f_X3_openCells I (z + 1) - nI (cn (fun c => cd (heldP I z c)) 256) := by
  rw [openCells_eq h.1, rq_cn (I := I) h.2.1 h.2.2]; rfl
theorem litn_ans {I u : Mm} {z N : Nat} (h : LtP I z N u) : nI (cn (fun c => decide (¬ f_X0_shinesOn u z (nI c) = 0)) 256) = nI (cn (fun c => cd (litC I z N c)) 256) := by
  refine congrArg nI (cn_cd (fun c hc => ?_))
  rw [decide_eq_true_iff, shine_ans h hc]
  by_cases e : litC I z N c
  · rw [cd_t e]; exact ⟨fun _ => e, fun _ => by decide⟩
  · rw [cd_f e]; exact ⟨fun y => absurd rfl y, fun y => absurd y e⟩

def th_X5_cell (I : Mm) (k : Nat) (a : Int32) (b : Int32) (c0 : Int32) (N : Nat) : Nat := (if th_X5_placeOf a b = 0 then (if c0 = nI 0 then 0 else (if c0 = nI 1 then 0 else (if c0 = nI 2 then 0 else (if c0 = nI 3 then 0 else (if c0 = nI 4 then 0 else (if c0 = nI 5 then 0 else 1)))))) else (th_X5_placeOf a b))
set_option maxHeartbeats 4000000 in
set_option maxRecDepth 100000 in
theorem c_X5_cell (l : Launch) (hst : l.stackTraces = false) (D : va_G) (cs : Nat → ClassId) (ad : Nat → Nat) (I : Mm) (sz : Nat) (k : Nat) (hk : kC.getD k 0 = 1) (a : Int32) (b : Int32) (c0 : Int32) (N : Nat) (hw : WT I (k + 1) N) (hR : RX (k + 1) I) (hR2 : RX (k + 26) I) : MetXI l yX5_cell wsX5_cell ({ frames := 7, cells := 2, slots := 12, locals := 103 }) kC cs D ad I sz [.ref (ad k), .int a, .int b, .int c0] (fun r u => th_X5_cell I k a b c0 N = 0 ∧ FX k u I ∧ r = cellF I (k + 1) N (pl a b) c0) (thrE (th_X5_cell I k a b c0 N)) 2 12 := by
  refine g_xmet (cc := cX5_cell) (maxL := 5) (ret := (some .int)) (by decide) rfl (Nat.le_of_ble_eq_true rfl) ?_
  intro pg e s m args below meth c ls hx hb hr hml hts hown hlocks hsz hP hD hK hN hS hA hl hX ht
  have hown : s.vm.findClass RX5 = some m.cls := hown
  have hl : lv_has ls 5 [(0, .ref (ad k)), (1, .int a), (2, .int b), (3, .int c0)] := hl
  have hN3 := hw.1
  have hN8 := hw.2.1
  obtain ⟨n0, q0, hq0⟩ := id hR
  refine lv_iload_n hx hb dX5_cell_0 rfl (lv_at hl 1 rfl) ?_
  refine lv_iload_n hx hb dX5_cell_1 rfl (lv_at hl 2 rfl) ?_
  refine g_xcalli hD hS hA (vx_runS (As := [.int a, .int b]) (rest := []) ⟨hx, hb, hml, hown, hts⟩ (c_X5_placeOf l hst D cs ad I s.heap.size a b) (va_cwS 2 hts gX5_cell_X5_placeOf rfl rfl rfl (by decide +kernel) ⟨Nat.le_of_ble_eq_true rfl, Nat.le_of_ble_eq_true rfl⟩) (g_xpreS hP hD hK hN hX hS hsz) rfl rfl hl.1 rfl (lv_room (Nat.le_of_ble_eq_true rfl)) dX5_cell_2 ⟨Nat.le_of_ble_eq_true rfl, Nat.le_of_ble_eq_true rfl⟩) (fun E ce q9 H locs hth9 hP hD hS hce hcv hcl => ?_) (fun r1 u1 H locs hw1 hP hD hS => ?_)
  · skip
    have c_1 := thrE_ne hth9
    exact g_xout ht hlocks hce hcv hcl hP hD hS (by simp only [th_X5_cell, if_neg c_1]; exact hth9) (Nat.le_of_ble_eq_true rfl) (Nat.le_of_ble_eq_true rfl)
  · skip
    obtain ⟨c_1, hr1, hv1⟩ := hw1
    rw [hv1] at hP hD
    rw [hr1]
    have h256c_1 := pl_256 c_1
    rw [show f_X5_placeOf a b = nI (pl a b) from pl_nI c_1]
    refine lv_istore (lv' := [(4, .int (nI (pl a b))), (0, .ref (ad k)), (1, .int a), (2, .int b), (3, .int c0)]) hx hb dX5_cell_5 hl (by decide) rfl (fun ls hl => ?_)
    refine lv_iload_n hx hb dX5_cell_7 rfl (lv_at hl 4 rfl) ?_
    by_cases c_2 : c0 = nI 0
    · skip
      refine lv_tableIn (tgt := 48) (off := 40) hx hb dX5_cell_8 (by rw [c_2]; decide) (by rw [c_2]; decide) (by rw [c_2]; decide) (by decide) ?_
      refine lv_aload_n hx hb dX5_cell_48 rfl (lv_at hl 1 rfl) ?_
      refine g_get (κ := 1) (ci := 5) (v := .ref (ad (k + 1))) (C := RX5) (T := TX5) (N := 3) hx hb hts hown hK hP (k := k) hk (by decide) rfl (fun _ h => List.mem_cons_of_mem _ (List.mem_append_left _ (List.mem_append_left _ (List.mem_append_left _ (List.mem_append_left _ (List.mem_append_left _ (List.mem_append_right _ h))))))) rfl 0 (by decide) (hts _ (List.mem_of_getElem? (i := 3) rfl)) (fun _ h9 => h9) rfl dX5_cell_49 ?_
      refine g_getN (κ := 2) (ci := 0) (v := .ref (ad (k + 1 + 1))) (C := RX0) (T := TX0) (N := 7) hx hb hts hown hK hP (k := (k + 1)) (kd_1_0 hk) (by decide) rfl (fun _ h => List.mem_cons_of_mem _ (List.mem_append_left _ (List.mem_append_left _ (List.mem_append_left _ (List.mem_append_left _ (List.mem_append_right _ h)))))) rfl 0 (by decide) (nwu16 hN) (fun _ h9 => h9) rfl dX5_cell_52 ?_
      refine lv_iload hx hb dX5_cell_55 (lv_at hl 0 rfl) ?_
      refine g_callF (F := f_X3_sortAt I (k + 1 + 1) (nI (pl a b))) hD hS hA (va_runV (As := [.int (nI (pl a b))]) (rest := []) ⟨hx, hb, hml, hown, hts⟩ (c_X3_sortAt l D cs ad I H.size (k + 1 + 1) (kd_2_0 (kd_1_0 hk)) (nI (pl a b))) (cwV 1 hts gX5_cell_X3_sortAt rfl rfl rfl (by decide +kernel) ⟨Nat.le_of_ble_eq_true rfl, Nat.le_of_ble_eq_true rfl⟩) (g_preV hP hD hK hN (k := (k + 1 + 1)) (kd_2_0 (kd_1_0 hk)) (by decide) rfl rfl rfl rfl) rfl rfl hl.1 rfl (lv_room (Nat.le_of_ble_eq_true rfl)) dX5_cell_57 ⟨Nat.le_of_ble_eq_true rfl, Nat.le_of_ble_eq_true rfl⟩) (fun H locs hP hD hS => ?_)
      refine W.widen (k := 2) (n := 12) (Nat.le_of_ble_eq_true rfl) (Nat.le_of_ble_eq_true rfl) ?_
      refine vx_ret ?_
      exact g_iret (v := f_X3_sortAt I (k + 1 + 1) (nI (pl a b))) hx hb hr hlocks rfl hP hD hS ⟨(by simp only [th_X5_cell, if_pos c_1, if_pos c_2]), ⟨(FX.rf hR hR2), by simp only [cellF]; rw [if_pos c_2]; exact sort_in h256c_1⟩⟩ dX5_cell_60
    · skip
      by_cases c_3 : c0 = nI 1
      · skip
        refine lv_tableIn (tgt := 61) (off := 53) hx hb dX5_cell_8 (by rw [c_3]; decide) (by rw [c_3]; decide) (by rw [c_3]; decide) (by decide) ?_
        refine lv_aload_n hx hb dX5_cell_61 rfl (lv_at hl 1 rfl) ?_
        refine g_get (κ := 1) (ci := 5) (v := .ref (ad (k + 1))) (C := RX5) (T := TX5) (N := 3) hx hb hts hown hK hP (k := k) hk (by decide) rfl (fun _ h => List.mem_cons_of_mem _ (List.mem_append_left _ (List.mem_append_left _ (List.mem_append_left _ (List.mem_append_left _ (List.mem_append_left _ (List.mem_append_right _ h))))))) rfl 0 (by decide) (hts _ (List.mem_of_getElem? (i := 3) rfl)) (fun _ h9 => h9) rfl dX5_cell_62 ?_
        refine g_getN (κ := 2) (ci := 0) (v := .ref (ad (k + 1 + 1))) (C := RX0) (T := TX0) (N := 7) hx hb hts hown hK hP (k := (k + 1)) (kd_1_0 hk) (by decide) rfl (fun _ h => List.mem_cons_of_mem _ (List.mem_append_left _ (List.mem_append_left _ (List.mem_append_left _ (List.mem_append_left _ (List.mem_append_right _ h)))))) rfl 0 (by decide) (nwu16 hN) (fun _ h9 => h9) rfl dX5_cell_65 ?_
        refine lv_iload hx hb dX5_cell_68 (lv_at hl 0 rfl) ?_
        refine g_callF (F := f_X3_ageAt I (k + 1 + 1) (nI (pl a b))) hD hS hA (va_runV (As := [.int (nI (pl a b))]) (rest := []) ⟨hx, hb, hml, hown, hts⟩ (c_X3_ageAt l D cs ad I H.size (k + 1 + 1) (kd_2_0 (kd_1_0 hk)) (nI (pl a b))) (cwV 1 hts gX5_cell_X3_ageAt rfl rfl rfl (by decide +kernel) ⟨Nat.le_of_ble_eq_true rfl, Nat.le_of_ble_eq_true rfl⟩) (g_preV hP hD hK hN (k := (k + 1 + 1)) (kd_2_0 (kd_1_0 hk)) (by decide) rfl rfl rfl rfl) rfl rfl hl.1 rfl (lv_room (Nat.le_of_ble_eq_true rfl)) dX5_cell_70 ⟨Nat.le_of_ble_eq_true rfl, Nat.le_of_ble_eq_true rfl⟩) (fun H locs hP hD hS => ?_)
        refine W.widen (k := 2) (n := 12) (Nat.le_of_ble_eq_true rfl) (Nat.le_of_ble_eq_true rfl) ?_
        refine vx_ret ?_
        exact g_iret (v := f_X3_ageAt I (k + 1 + 1) (nI (pl a b))) hx hb hr hlocks rfl hP hD hS ⟨(by simp only [th_X5_cell, if_pos c_1, if_neg c_2, if_pos c_3]), ⟨(FX.rf hR hR2), by simp only [cellF]; rw [if_neg c_2, if_pos c_3]; exact ages_in h256c_1⟩⟩ dX5_cell_73
      · skip
        by_cases c_4 : c0 = nI 2
        · skip
          refine lv_tableIn (tgt := 74) (off := 66) hx hb dX5_cell_8 (by rw [c_4]; decide) (by rw [c_4]; decide) (by rw [c_4]; decide) (by decide) ?_
          refine lv_aload_n hx hb dX5_cell_74 rfl (lv_at hl 1 rfl) ?_
          refine g_get (κ := 1) (ci := 5) (v := .ref (ad (k + 1))) (C := RX5) (T := TX5) (N := 3) hx hb hts hown hK hP (k := k) hk (by decide) rfl (fun _ h => List.mem_cons_of_mem _ (List.mem_append_left _ (List.mem_append_left _ (List.mem_append_left _ (List.mem_append_left _ (List.mem_append_left _ (List.mem_append_right _ h))))))) rfl 0 (by decide) (hts _ (List.mem_of_getElem? (i := 3) rfl)) (fun _ h9 => h9) rfl dX5_cell_75 ?_
          refine g_getN (κ := 2) (ci := 0) (v := .ref (ad (k + 1 + 1))) (C := RX0) (T := TX0) (N := 7) hx hb hts hown hK hP (k := (k + 1)) (kd_1_0 hk) (by decide) rfl (fun _ h => List.mem_cons_of_mem _ (List.mem_append_left _ (List.mem_append_left _ (List.mem_append_left _ (List.mem_append_left _ (List.mem_append_right _ h)))))) rfl 0 (by decide) (nwu16 hN) (fun _ h9 => h9) rfl dX5_cell_78 ?_
          refine lv_iload hx hb dX5_cell_81 (lv_at hl 0 rfl) ?_
          refine g_callF (F := f_X3_postsAt I (k + 1 + 1) (nI (pl a b))) hD hS hA (va_runV (As := [.int (nI (pl a b))]) (rest := []) ⟨hx, hb, hml, hown, hts⟩ (c_X3_postsAt l D cs ad I H.size (k + 1 + 1) (kd_2_0 (kd_1_0 hk)) (nI (pl a b))) (cwV 1 hts gX5_cell_X3_postsAt rfl rfl rfl (by decide +kernel) ⟨Nat.le_of_ble_eq_true rfl, Nat.le_of_ble_eq_true rfl⟩) (g_preV hP hD hK hN (k := (k + 1 + 1)) (kd_2_0 (kd_1_0 hk)) (by decide) rfl rfl rfl rfl) rfl rfl hl.1 rfl (lv_room (Nat.le_of_ble_eq_true rfl)) dX5_cell_83 ⟨Nat.le_of_ble_eq_true rfl, Nat.le_of_ble_eq_true rfl⟩) (fun H locs hP hD hS => ?_)
          refine W.widen (k := 2) (n := 12) (Nat.le_of_ble_eq_true rfl) (Nat.le_of_ble_eq_true rfl) ?_
          refine vx_ret ?_
          exact g_iret (v := f_X3_postsAt I (k + 1 + 1) (nI (pl a b))) hx hb hr hlocks rfl hP hD hS ⟨(by simp only [th_X5_cell, if_pos c_1, if_neg c_2, if_neg c_3, if_pos c_4]), ⟨(FX.rf hR hR2), by simp only [cellF]; rw [if_neg c_2, if_neg c_3, if_pos c_4]; exact posts_in h256c_1⟩⟩ dX5_cell_86
        · skip
          by_cases c_5 : c0 = nI 3
          · skip
            refine lv_tableIn (tgt := 87) (off := 79) hx hb dX5_cell_8 (by rw [c_5]; decide) (by rw [c_5]; decide) (by rw [c_5]; decide) (by decide) ?_
            refine lv_aload_n hx hb dX5_cell_87 rfl (lv_at hl 1 rfl) ?_
            refine g_get (κ := 1) (ci := 5) (v := .ref (ad (k + 1))) (C := RX5) (T := TX5) (N := 3) hx hb hts hown hK hP (k := k) hk (by decide) rfl (fun _ h => List.mem_cons_of_mem _ (List.mem_append_left _ (List.mem_append_left _ (List.mem_append_left _ (List.mem_append_left _ (List.mem_append_left _ (List.mem_append_right _ h))))))) rfl 0 (by decide) (hts _ (List.mem_of_getElem? (i := 3) rfl)) (fun _ h9 => h9) rfl dX5_cell_88 ?_
            refine lv_iload hx hb dX5_cell_91 (lv_at hl 0 rfl) ?_
            refine g_calli hD hS hA (va_runV (As := [.int (nI (pl a b))]) (rest := []) ⟨hx, hb, hml, hown, hts⟩ (c_X0_isHeld l D cs ad I H.size (k + 1) (kd_1_0 hk) (nI (pl a b)) n0 q0 hq0) (cwV 1 hts gX5_cell_X0_isHeld rfl rfl rfl (by decide +kernel) ⟨Nat.le_of_ble_eq_true rfl, Nat.le_of_ble_eq_true rfl⟩) (g_preV hP hD hK hN (k := (k + 1)) (kd_1_0 hk) (by decide) rfl rfl rfl rfl) rfl rfl hl.1 rfl (lv_room (Nat.le_of_ble_eq_true rfl)) dX5_cell_93 ⟨Nat.le_of_ble_eq_true rfl, Nat.le_of_ble_eq_true rfl⟩) (fun ru6 u6 H locs hu6 hP hD hS => ?_)
            obtain ⟨hu6, hru6⟩ := hu6
            rw [hru6]
            refine g_callF (F := f_X5_oneIf (f_X1_holds u6 (k + 1 + 5) (nI (pl a b)))) hD hS hA (va_runS (As := [.int (f_X1_holds u6 (k + 1 + 5) (nI (pl a b)))]) (rest := []) ⟨hx, hb, hml, hown, hts⟩ (c_X5_oneIf l D cs ad u6 H.size (f_X1_holds u6 (k + 1 + 5) (nI (pl a b))) (holds_bo _ _ _)) (va_cwS 1 hts gX5_cell_X5_oneIf rfl rfl rfl (by decide +kernel) ⟨Nat.le_of_ble_eq_true rfl, Nat.le_of_ble_eq_true rfl⟩) (g_preS hP hD hK hN) rfl rfl hl.1 rfl (lv_room (Nat.le_of_ble_eq_true rfl)) dX5_cell_96 ⟨Nat.le_of_ble_eq_true rfl, Nat.le_of_ble_eq_true rfl⟩) (fun H locs hP hD hS => ?_)
            refine W.widen (k := 2) (n := 12) (Nat.le_of_ble_eq_true rfl) (Nat.le_of_ble_eq_true rfl) ?_
            refine vx_ret ?_
            exact g_iret (v := f_X5_oneIf (f_X1_holds u6 (k + 1 + 5) (nI (pl a b)))) hx hb hr hlocks rfl hP hD hS ⟨(by simp only [th_X5_cell, if_pos c_1, if_neg c_2, if_neg c_3, if_neg c_4, if_pos c_5]), ⟨(FX.of ⟨hu6.1, hu6.2.1⟩ hR2), by simp only [cellF]; rw [if_neg c_2, if_neg c_3, if_neg c_4, if_pos c_5]; exact held_ans hu6 h256c_1⟩⟩ dX5_cell_99
          · skip
            by_cases c_7 : c0 = nI 4
            · skip
              refine lv_tableIn (tgt := 100) (off := 92) hx hb dX5_cell_8 (by rw [c_7]; decide) (by rw [c_7]; decide) (by rw [c_7]; decide) (by decide) ?_
              refine lv_aload_n hx hb dX5_cell_100 rfl (lv_at hl 1 rfl) ?_
              refine g_get (κ := 1) (ci := 5) (v := .ref (ad (k + 1))) (C := RX5) (T := TX5) (N := 3) hx hb hts hown hK hP (k := k) hk (by decide) rfl (fun _ h => List.mem_cons_of_mem _ (List.mem_append_left _ (List.mem_append_left _ (List.mem_append_left _ (List.mem_append_left _ (List.mem_append_left _ (List.mem_append_right _ h))))))) rfl 0 (by decide) (hts _ (List.mem_of_getElem? (i := 3) rfl)) (fun _ h9 => h9) rfl dX5_cell_101 ?_
              refine lv_iload hx hb dX5_cell_104 (lv_at hl 0 rfl) ?_
              refine g_calli hD hS hA (va_runV (As := [.int (nI (pl a b))]) (rest := []) ⟨hx, hb, hml, hown, hts⟩ (c_X0_isLit l D cs ad I H.size (k + 1) (kd_1_0 hk) (nI (pl a b)) N (hw.wz hR)) (cwV 1 hts gX5_cell_X0_isLit rfl rfl rfl (by decide +kernel) ⟨Nat.le_of_ble_eq_true rfl, Nat.le_of_ble_eq_true rfl⟩) (g_preV hP hD hK hN (k := (k + 1)) (kd_1_0 hk) (by decide) rfl rfl rfl rfl) rfl rfl hl.1 rfl (lv_room (Nat.le_of_ble_eq_true rfl)) dX5_cell_106 ⟨Nat.le_of_ble_eq_true rfl, Nat.le_of_ble_eq_true rfl⟩) (fun ru8 u8 H locs hu8 hP hD hS => ?_)
              obtain ⟨hu8, hru8⟩ := hu8
              rw [hru8]
              refine g_callF (F := f_X5_oneIf (f_X0_shinesOn u8 (k + 1) (nI (pl a b)))) hD hS hA (va_runS (As := [.int (f_X0_shinesOn u8 (k + 1) (nI (pl a b)))]) (rest := []) ⟨hx, hb, hml, hown, hts⟩ (c_X5_oneIf l D cs ad u8 H.size (f_X0_shinesOn u8 (k + 1) (nI (pl a b))) (shine_bo _ _ _)) (va_cwS 1 hts gX5_cell_X5_oneIf rfl rfl rfl (by decide +kernel) ⟨Nat.le_of_ble_eq_true rfl, Nat.le_of_ble_eq_true rfl⟩) (g_preS hP hD hK hN) rfl rfl hl.1 rfl (lv_room (Nat.le_of_ble_eq_true rfl)) dX5_cell_109 ⟨Nat.le_of_ble_eq_true rfl, Nat.le_of_ble_eq_true rfl⟩) (fun H locs hP hD hS => ?_)
              refine W.widen (k := 2) (n := 12) (Nat.le_of_ble_eq_true rfl) (Nat.le_of_ble_eq_true rfl) ?_
              refine vx_ret ?_
              exact g_iret (v := f_X5_oneIf (f_X0_shinesOn u8 (k + 1) (nI (pl a b)))) hx hb hr hlocks rfl hP hD hS ⟨(by simp only [th_X5_cell, if_pos c_1, if_neg c_2, if_neg c_3, if_neg c_4, if_neg c_5, if_pos c_7]), ⟨(FX.of ⟨hu8.1, hu8.2.1⟩ hR2), by simp only [cellF]; rw [if_neg c_2, if_neg c_3, if_neg c_4, if_neg c_5, if_pos c_7]; rw [shine_ans hu8 h256c_1]; exact oneIf_bi _⟩⟩ dX5_cell_112
            · skip
              by_cases c_9 : c0 = nI 5
              · skip
                refine lv_tableIn (tgt := 113) (off := 105) hx hb dX5_cell_8 (by rw [c_9]; decide) (by rw [c_9]; decide) (by rw [c_9]; decide) (by decide) ?_
                refine lv_aload_n hx hb dX5_cell_113 rfl (lv_at hl 1 rfl) ?_
                refine g_get (κ := 1) (ci := 5) (v := .ref (ad (k + 1))) (C := RX5) (T := TX5) (N := 3) hx hb hts hown hK hP (k := k) hk (by decide) rfl (fun _ h => List.mem_cons_of_mem _ (List.mem_append_left _ (List.mem_append_left _ (List.mem_append_left _ (List.mem_append_left _ (List.mem_append_left _ (List.mem_append_right _ h))))))) rfl 0 (by decide) (hts _ (List.mem_of_getElem? (i := 3) rfl)) (fun _ h9 => h9) rfl dX5_cell_114 ?_
                refine lv_iload hx hb dX5_cell_117 (lv_at hl 0 rfl) ?_
                refine g_callF (F := f_X0_crewAt I (k + 1) (nI (pl a b)) N) hD hS hA (va_runV (As := [.int (nI (pl a b))]) (rest := []) ⟨hx, hb, hml, hown, hts⟩ (c_X0_crewAt l D cs ad I H.size (k + 1) (kd_1_0 hk) (nI (pl a b)) N hN3 hN8) (cwV 1 hts gX5_cell_X0_crewAt rfl rfl rfl (by decide +kernel) ⟨Nat.le_of_ble_eq_true rfl, Nat.le_of_ble_eq_true rfl⟩) (g_preV hP hD hK hN (k := (k + 1)) (kd_1_0 hk) (by decide) rfl rfl rfl rfl) rfl rfl hl.1 rfl (lv_room (Nat.le_of_ble_eq_true rfl)) dX5_cell_119 ⟨Nat.le_of_ble_eq_true rfl, Nat.le_of_ble_eq_true rfl⟩) (fun H locs hP hD hS => ?_)
                refine W.widen (k := 2) (n := 12) (Nat.le_of_ble_eq_true rfl) (Nat.le_of_ble_eq_true rfl) ?_
                refine vx_ret ?_
                exact g_iret (v := f_X0_crewAt I (k + 1) (nI (pl a b)) N) hx hb hr hlocks rfl hP hD hS ⟨(by simp only [th_X5_cell, if_pos c_1, if_neg c_2, if_neg c_3, if_neg c_4, if_neg c_5, if_neg c_7, if_pos c_9]), ⟨(FX.rf hR hR2), by simp only [cellF]; rw [if_neg c_2, if_neg c_3, if_neg c_4, if_neg c_5, if_neg c_7]⟩⟩ dX5_cell_122
              · skip
                have ho : ∀ j : Nat, j ≤ 5 → c0 ≠ nI j := by
                  intro j hj
                  rcases (show j = 0 ∨ j = 1 ∨ j = 2 ∨ j = 3 ∨ j = 4 ∨ j = 5 from by omega) with rfl | rfl | rfl | rfl | rfl | rfl
                  · exact c_2
                  · exact c_3
                  · exact c_4
                  · exact c_5
                  · exact c_7
                  · exact c_9
                refine lv_tableOut (tgt := 123) hx hb dX5_cell_8 (tsw (n := 5) (by decide) ho) (by decide) ?_
                exact g_throw (own := RX5) (cls := "java/lang/IndexOutOfBoundsException") (text := "a cell tells 0 to 5") (names := ["java/lang/RuntimeException", "java/lang/Exception"]) (ik := 76) (is := 78) (ic := 80) hx hb hst hown (by decide +kernel) (by decide +kernel) (hts _ (List.mem_of_getElem? (i := 1) rfl)) (hts _ (List.mem_of_getElem? (i := 2) rfl)) rfl (by decide) hN (fun w h => hts w (List.mem_cons_of_mem _ (List.mem_append_right _ h))) xb_80 xg_80 hX hS hP hD (hl.1.trans hml.symm) dX5_cell_123 dX5_cell_126 dX5_cell_127 dX5_cell_129 dX5_cell_132 ht (Nat.le_of_ble_eq_true rfl) (Nat.le_of_ble_eq_true rfl) (Nat.le_of_ble_eq_true rfl) (Nat.le_of_ble_eq_true rfl) hlocks (Nat.le_of_ble_eq_true rfl) (Nat.le_of_ble_eq_true rfl) (by simp only [th_X5_cell, if_pos c_1, if_neg c_2, if_neg c_3, if_neg c_4, if_neg c_5, if_neg c_7, if_neg c_9]; exact thr_1)

def th_X5_count (I : Mm) (k : Nat) (a : Int32) (N : Nat) : Nat := (if a = nI 0 then 0 else (if a = nI 1 then 0 else (if a = nI 2 then 0 else (if a = nI 3 then 0 else (if a = nI 4 then 0 else (if a = nI 5 then 0 else (if a = nI 6 then 0 else (if a = nI 7 then 0 else (if a = nI 8 then 0 else 1)))))))))
set_option maxHeartbeats 4000000 in
set_option maxRecDepth 100000 in
theorem c_X5_count (l : Launch) (hst : l.stackTraces = false) (D : va_G) (cs : Nat → ClassId) (ad : Nat → Nat) (I : Mm) (sz : Nat) (k : Nat) (hk : kC.getD k 0 = 1) (a : Int32) (N : Nat) (hw : WT I (k + 1) N) (hR : RX (k + 1) I) (hR2 : RX (k + 26) I) : MetXI l yX5_count wsX5_count ({ frames := 6, cells := 1, slots := 6, locals := 92 }) kC cs D ad I sz [.ref (ad k), .int a] (fun r u => th_X5_count I k a N = 0 ∧ FX k u I ∧ r = countF I (k + 1) N a) (thrE (th_X5_count I k a N)) 1 6 := by
  refine g_xmet (cc := cX5_count) (maxL := 2) (ret := (some .int)) (by decide) rfl (Nat.le_of_ble_eq_true rfl) ?_
  intro pg e s m args below meth c ls hx hb hr hml hts hown hlocks hsz hP hD hK hN hS hA hl hX ht
  have hown : s.vm.findClass RX5 = some m.cls := hown
  have hl : lv_has ls 2 [(0, .ref (ad k)), (1, .int a)] := hl
  have hN3 := hw.1
  have hN8 := hw.2.1
  obtain ⟨n0, q0, hq0⟩ := id hR
  refine lv_iload_n hx hb dX5_count_0 rfl (lv_at hl 1 rfl) ?_
  by_cases c_1 : a = nI 0
  · skip
    refine lv_tableIn (tgt := 52) (off := 51) hx hb dX5_count_1 (by rw [c_1]; decide) (by rw [c_1]; decide) (by rw [c_1]; decide) (by decide) ?_
    refine lv_aload_n hx hb dX5_count_52 rfl (lv_at hl 0 rfl) ?_
    refine g_get (κ := 1) (ci := 5) (v := .ref (ad (k + 1))) (C := RX5) (T := TX5) (N := 3) hx hb hts hown hK hP (k := k) hk (by decide) rfl (fun _ h => List.mem_cons_of_mem _ (List.mem_append_left _ (List.mem_append_left _ (List.mem_append_left _ (List.mem_append_left _ (List.mem_append_left _ (List.mem_append_right _ h))))))) rfl 0 (by decide) (hts _ (List.mem_of_getElem? (i := 3) rfl)) (fun _ h9 => h9) rfl dX5_count_53 ?_
    refine g_getN (κ := 2) (ci := 0) (v := .int (I (k + 1) 4)) (C := RX0) (T := TX0) (N := 7) hx hb hts hown hK hP (k := (k + 1)) (kd_1_0 hk) (by decide) rfl (fun _ h => List.mem_cons_of_mem _ (List.mem_append_left _ (List.mem_append_left _ (List.mem_append_left _ (List.mem_append_left _ (List.mem_append_right _ h)))))) rfl 4 (by decide) (nwu18 hN) (fun _ h9 => h9) rfl dX5_count_56 ?_
    refine W.widen (k := 1) (n := 6) (Nat.le_of_ble_eq_true rfl) (Nat.le_of_ble_eq_true rfl) ?_
    refine vx_ret ?_
    exact g_iret (v := I (k + 1) 4) hx hb hr hlocks rfl hP hD hS ⟨(by simp only [th_X5_count, if_pos c_1]), ⟨(FX.rf hR hR2), by simp only [countF]; rw [if_pos c_1]⟩⟩ dX5_count_59
  · skip
    by_cases c_2 : a = nI 1
    · skip
      refine lv_tableIn (tgt := 60) (off := 59) hx hb dX5_count_1 (by rw [c_2]; decide) (by rw [c_2]; decide) (by rw [c_2]; decide) (by decide) ?_
      refine lv_aload_n hx hb dX5_count_60 rfl (lv_at hl 0 rfl) ?_
      refine g_get (κ := 1) (ci := 5) (v := .ref (ad (k + 1))) (C := RX5) (T := TX5) (N := 3) hx hb hts hown hK hP (k := k) hk (by decide) rfl (fun _ h => List.mem_cons_of_mem _ (List.mem_append_left _ (List.mem_append_left _ (List.mem_append_left _ (List.mem_append_left _ (List.mem_append_left _ (List.mem_append_right _ h))))))) rfl 0 (by decide) (hts _ (List.mem_of_getElem? (i := 3) rfl)) (fun _ h9 => h9) rfl dX5_count_61 ?_
      refine g_getN (κ := 2) (ci := 0) (v := .int (I (k + 1) 3)) (C := RX0) (T := TX0) (N := 7) hx hb hts hown hK hP (k := (k + 1)) (kd_1_0 hk) (by decide) rfl (fun _ h => List.mem_cons_of_mem _ (List.mem_append_left _ (List.mem_append_left _ (List.mem_append_left _ (List.mem_append_left _ (List.mem_append_right _ h)))))) rfl 3 (by decide) (nwu17 hN) (fun _ h9 => h9) rfl dX5_count_64 ?_
      refine W.widen (k := 1) (n := 6) (Nat.le_of_ble_eq_true rfl) (Nat.le_of_ble_eq_true rfl) ?_
      refine vx_ret ?_
      exact g_iret (v := I (k + 1) 3) hx hb hr hlocks rfl hP hD hS ⟨(by simp only [th_X5_count, if_neg c_1, if_pos c_2]), ⟨(FX.rf hR hR2), by simp only [countF]; rw [if_neg c_1, if_pos c_2]⟩⟩ dX5_count_67
    · skip
      by_cases c_3 : a = nI 2
      · skip
        refine lv_tableIn (tgt := 68) (off := 67) hx hb dX5_count_1 (by rw [c_3]; decide) (by rw [c_3]; decide) (by rw [c_3]; decide) (by decide) ?_
        refine lv_aload_n hx hb dX5_count_68 rfl (lv_at hl 0 rfl) ?_
        refine g_get (κ := 1) (ci := 5) (v := .ref (ad (k + 1))) (C := RX5) (T := TX5) (N := 3) hx hb hts hown hK hP (k := k) hk (by decide) rfl (fun _ h => List.mem_cons_of_mem _ (List.mem_append_left _ (List.mem_append_left _ (List.mem_append_left _ (List.mem_append_left _ (List.mem_append_left _ (List.mem_append_right _ h))))))) rfl 0 (by decide) (hts _ (List.mem_of_getElem? (i := 3) rfl)) (fun _ h9 => h9) rfl dX5_count_69 ?_
        refine g_callF (F := f_X0_buriedCrew I (k + 1) N) hD hS hA (va_runV (As := []) (rest := []) ⟨hx, hb, hml, hown, hts⟩ (c_X0_buriedCrew l D cs ad I s.heap.size (k + 1) (kd_1_0 hk) N hN3 hN8) (cwV 0 hts gX5_count_X0_buriedCrew rfl rfl rfl (by decide +kernel) ⟨Nat.le_of_ble_eq_true rfl, Nat.le_of_ble_eq_true rfl⟩) (g_preV hP hD hK hN (k := (k + 1)) (kd_1_0 hk) (by decide) rfl rfl rfl rfl) rfl rfl hl.1 rfl (lv_room (Nat.le_of_ble_eq_true rfl)) dX5_count_72 ⟨Nat.le_of_ble_eq_true rfl, Nat.le_of_ble_eq_true rfl⟩) (fun H locs hP hD hS => ?_)
        refine W.widen (k := 1) (n := 6) (Nat.le_of_ble_eq_true rfl) (Nat.le_of_ble_eq_true rfl) ?_
        refine vx_ret ?_
        exact g_iret (v := f_X0_buriedCrew I (k + 1) N) hx hb hr hlocks rfl hP hD hS ⟨(by simp only [th_X5_count, if_neg c_1, if_neg c_2, if_pos c_3]), ⟨(FX.rf hR hR2), by simp only [countF]; rw [if_neg c_1, if_neg c_2, if_pos c_3]⟩⟩ dX5_count_75
      · skip
        by_cases c_4 : a = nI 3
        · skip
          refine lv_tableIn (tgt := 76) (off := 75) hx hb dX5_count_1 (by rw [c_4]; decide) (by rw [c_4]; decide) (by rw [c_4]; decide) (by decide) ?_
          refine lv_aload_n hx hb dX5_count_76 rfl (lv_at hl 0 rfl) ?_
          refine g_get (κ := 1) (ci := 5) (v := .ref (ad (k + 1))) (C := RX5) (T := TX5) (N := 3) hx hb hts hown hK hP (k := k) hk (by decide) rfl (fun _ h => List.mem_cons_of_mem _ (List.mem_append_left _ (List.mem_append_left _ (List.mem_append_left _ (List.mem_append_left _ (List.mem_append_left _ (List.mem_append_right _ h))))))) rfl 0 (by decide) (hts _ (List.mem_of_getElem? (i := 3) rfl)) (fun _ h9 => h9) rfl dX5_count_77 ?_
          refine g_getN (κ := 2) (ci := 0) (v := .ref (ad (k + 1 + 1))) (C := RX0) (T := TX0) (N := 7) hx hb hts hown hK hP (k := (k + 1)) (kd_1_0 hk) (by decide) rfl (fun _ h => List.mem_cons_of_mem _ (List.mem_append_left _ (List.mem_append_left _ (List.mem_append_left _ (List.mem_append_left _ (List.mem_append_right _ h)))))) rfl 0 (by decide) (nwu16 hN) (fun _ h9 => h9) rfl dX5_count_80 ?_
          refine g_callF (F := f_X3_openCells I (k + 1 + 1)) hD hS hA (va_runV (As := []) (rest := []) ⟨hx, hb, hml, hown, hts⟩ (c_X3_openCells l D cs ad I s.heap.size (k + 1 + 1) (kd_2_0 (kd_1_0 hk))) (cwV 0 hts gX5_count_X3_openCells rfl rfl rfl (by decide +kernel) ⟨Nat.le_of_ble_eq_true rfl, Nat.le_of_ble_eq_true rfl⟩) (g_preV hP hD hK hN (k := (k + 1 + 1)) (kd_2_0 (kd_1_0 hk)) (by decide) rfl rfl rfl rfl) rfl rfl hl.1 rfl (lv_room (Nat.le_of_ble_eq_true rfl)) dX5_count_83 ⟨Nat.le_of_ble_eq_true rfl, Nat.le_of_ble_eq_true rfl⟩) (fun H locs hP hD hS => ?_)
          refine W.widen (k := 1) (n := 6) (Nat.le_of_ble_eq_true rfl) (Nat.le_of_ble_eq_true rfl) ?_
          refine vx_ret ?_
          exact g_iret (v := f_X3_openCells I (k + 1 + 1)) hx hb hr hlocks rfl hP hD hS ⟨(by simp only [th_X5_count, if_neg c_1, if_neg c_2, if_neg c_3, if_pos c_4]), ⟨(FX.rf hR hR2), by simp only [countF]; rw [if_neg c_1, if_neg c_2, if_neg c_3, if_pos c_4]⟩⟩ dX5_count_86
        · skip
          by_cases c_5 : a = nI 4
          · skip
            refine lv_tableIn (tgt := 87) (off := 86) hx hb dX5_count_1 (by rw [c_5]; decide) (by rw [c_5]; decide) (by rw [c_5]; decide) (by decide) ?_
            refine lv_aload_n hx hb dX5_count_87 rfl (lv_at hl 0 rfl) ?_
            refine g_get (κ := 1) (ci := 5) (v := .ref (ad (k + 1))) (C := RX5) (T := TX5) (N := 3) hx hb hts hown hK hP (k := k) hk (by decide) rfl (fun _ h => List.mem_cons_of_mem _ (List.mem_append_left _ (List.mem_append_left _ (List.mem_append_left _ (List.mem_append_left _ (List.mem_append_left _ (List.mem_append_right _ h))))))) rfl 0 (by decide) (hts _ (List.mem_of_getElem? (i := 3) rfl)) (fun _ h9 => h9) rfl dX5_count_88 ?_
            refine g_getN (κ := 2) (ci := 0) (v := .ref (ad (k + 1 + 1))) (C := RX0) (T := TX0) (N := 7) hx hb hts hown hK hP (k := (k + 1)) (kd_1_0 hk) (by decide) rfl (fun _ h => List.mem_cons_of_mem _ (List.mem_append_left _ (List.mem_append_left _ (List.mem_append_left _ (List.mem_append_left _ (List.mem_append_right _ h)))))) rfl 0 (by decide) (nwu16 hN) (fun _ h9 => h9) rfl dX5_count_91 ?_
            refine g_callF (F := f_X3_postsSet I (k + 1 + 1)) hD hS hA (va_runV (As := []) (rest := []) ⟨hx, hb, hml, hown, hts⟩ (c_X3_postsSet l D cs ad I s.heap.size (k + 1 + 1) (kd_2_0 (kd_1_0 hk))) (cwV 0 hts gX5_count_X3_postsSet rfl rfl rfl (by decide +kernel) ⟨Nat.le_of_ble_eq_true rfl, Nat.le_of_ble_eq_true rfl⟩) (g_preV hP hD hK hN (k := (k + 1 + 1)) (kd_2_0 (kd_1_0 hk)) (by decide) rfl rfl rfl rfl) rfl rfl hl.1 rfl (lv_room (Nat.le_of_ble_eq_true rfl)) dX5_count_94 ⟨Nat.le_of_ble_eq_true rfl, Nat.le_of_ble_eq_true rfl⟩) (fun H locs hP hD hS => ?_)
            refine W.widen (k := 1) (n := 6) (Nat.le_of_ble_eq_true rfl) (Nat.le_of_ble_eq_true rfl) ?_
            refine vx_ret ?_
            exact g_iret (v := f_X3_postsSet I (k + 1 + 1)) hx hb hr hlocks rfl hP hD hS ⟨(by simp only [th_X5_count, if_neg c_1, if_neg c_2, if_neg c_3, if_neg c_4, if_pos c_5]), ⟨(FX.rf hR hR2), by simp only [countF]; rw [if_neg c_1, if_neg c_2, if_neg c_3, if_neg c_4, if_pos c_5]⟩⟩ dX5_count_97
          · skip
            by_cases c_6 : a = nI 5
            · skip
              refine lv_tableIn (tgt := 98) (off := 97) hx hb dX5_count_1 (by rw [c_6]; decide) (by rw [c_6]; decide) (by rw [c_6]; decide) (by decide) ?_
              refine lv_aload_n hx hb dX5_count_98 rfl (lv_at hl 0 rfl) ?_
              refine g_get (κ := 1) (ci := 5) (v := .ref (ad (k + 1))) (C := RX5) (T := TX5) (N := 3) hx hb hts hown hK hP (k := k) hk (by decide) rfl (fun _ h => List.mem_cons_of_mem _ (List.mem_append_left _ (List.mem_append_left _ (List.mem_append_left _ (List.mem_append_left _ (List.mem_append_left _ (List.mem_append_right _ h))))))) rfl 0 (by decide) (hts _ (List.mem_of_getElem? (i := 3) rfl)) (fun _ h9 => h9) rfl dX5_count_99 ?_
              refine g_getN (κ := 2) (ci := 0) (v := .int (I (k + 1) 5)) (C := RX0) (T := TX0) (N := 7) hx hb hts hown hK hP (k := (k + 1)) (kd_1_0 hk) (by decide) rfl (fun _ h => List.mem_cons_of_mem _ (List.mem_append_left _ (List.mem_append_left _ (List.mem_append_left _ (List.mem_append_left _ (List.mem_append_right _ h)))))) rfl 5 (by decide) (nwu19 hN) (fun _ h9 => h9) rfl dX5_count_102 ?_
              refine W.widen (k := 1) (n := 6) (Nat.le_of_ble_eq_true rfl) (Nat.le_of_ble_eq_true rfl) ?_
              refine vx_ret ?_
              exact g_iret (v := I (k + 1) 5) hx hb hr hlocks rfl hP hD hS ⟨(by simp only [th_X5_count, if_neg c_1, if_neg c_2, if_neg c_3, if_neg c_4, if_neg c_5, if_pos c_6]), ⟨(FX.rf hR hR2), by simp only [countF]; rw [if_neg c_1, if_neg c_2, if_neg c_3, if_neg c_4, if_neg c_5, if_pos c_6]⟩⟩ dX5_count_105
            · skip
              by_cases c_7 : a = nI 6
              · skip
                refine lv_tableIn (tgt := 106) (off := 105) hx hb dX5_count_1 (by rw [c_7]; decide) (by rw [c_7]; decide) (by rw [c_7]; decide) (by decide) ?_
                refine lv_aload_n hx hb dX5_count_106 rfl (lv_at hl 0 rfl) ?_
                refine g_get (κ := 1) (ci := 5) (v := .ref (ad (k + 1))) (C := RX5) (T := TX5) (N := 3) hx hb hts hown hK hP (k := k) hk (by decide) rfl (fun _ h => List.mem_cons_of_mem _ (List.mem_append_left _ (List.mem_append_left _ (List.mem_append_left _ (List.mem_append_left _ (List.mem_append_left _ (List.mem_append_right _ h))))))) rfl 0 (by decide) (hts _ (List.mem_of_getElem? (i := 3) rfl)) (fun _ h9 => h9) rfl dX5_count_107 ?_
                refine g_calli hD hS hA (va_runV (As := []) (rest := []) ⟨hx, hb, hml, hown, hts⟩ (c_X0_litCells l D cs ad I s.heap.size (k + 1) (kd_1_0 hk) N (hw.wz hR)) (cwV 0 hts gX5_count_X0_litCells rfl rfl rfl (by decide +kernel) ⟨Nat.le_of_ble_eq_true rfl, Nat.le_of_ble_eq_true rfl⟩) (g_preV hP hD hK hN (k := (k + 1)) (kd_1_0 hk) (by decide) rfl rfl rfl rfl) rfl rfl hl.1 rfl (lv_room (Nat.le_of_ble_eq_true rfl)) dX5_count_110 ⟨Nat.le_of_ble_eq_true rfl, Nat.le_of_ble_eq_true rfl⟩) (fun ru8 u8 H locs hu8 hP hD hS => ?_)
                obtain ⟨hu8, hru8⟩ := hu8
                rw [hru8]
                refine W.widen (k := 1) (n := 6) (Nat.le_of_ble_eq_true rfl) (Nat.le_of_ble_eq_true rfl) ?_
                refine vx_ret ?_
                exact g_iret (v := nI (cn (fun c => decide (¬ f_X0_shinesOn u8 (k + 1) (nI c) = 0)) 256)) hx hb hr hlocks rfl hP hD hS ⟨(by simp only [th_X5_count, if_neg c_1, if_neg c_2, if_neg c_3, if_neg c_4, if_neg c_5, if_neg c_6, if_pos c_7]), ⟨(FX.of ⟨hu8.1, hu8.2.1⟩ hR2), by simp only [countF]; rw [if_neg c_1, if_neg c_2, if_neg c_3, if_neg c_4, if_neg c_5, if_neg c_6, if_pos c_7]; exact litn_ans hu8⟩⟩ dX5_count_113
              · skip
                by_cases c_9 : a = nI 7
                · skip
                  refine lv_tableIn (tgt := 114) (off := 113) hx hb dX5_count_1 (by rw [c_9]; decide) (by rw [c_9]; decide) (by rw [c_9]; decide) (by decide) ?_
                  refine lv_aload_n hx hb dX5_count_114 rfl (lv_at hl 0 rfl) ?_
                  refine g_get (κ := 1) (ci := 5) (v := .ref (ad (k + 1))) (C := RX5) (T := TX5) (N := 3) hx hb hts hown hK hP (k := k) hk (by decide) rfl (fun _ h => List.mem_cons_of_mem _ (List.mem_append_left _ (List.mem_append_left _ (List.mem_append_left _ (List.mem_append_left _ (List.mem_append_left _ (List.mem_append_right _ h))))))) rfl 0 (by decide) (hts _ (List.mem_of_getElem? (i := 3) rfl)) (fun _ h9 => h9) rfl dX5_count_115 ?_
                  refine g_calli hD hS hA (va_runV (As := []) (rest := []) ⟨hx, hb, hml, hown, hts⟩ (c_X0_looseCells l D cs ad I s.heap.size (k + 1) (kd_1_0 hk) n0 q0 hq0) (cwV 0 hts gX5_count_X0_looseCells rfl rfl rfl (by decide +kernel) ⟨Nat.le_of_ble_eq_true rfl, Nat.le_of_ble_eq_true rfl⟩) (g_preV hP hD hK hN (k := (k + 1)) (kd_1_0 hk) (by decide) rfl rfl rfl rfl) rfl rfl hl.1 rfl (lv_room (Nat.le_of_ble_eq_true rfl)) dX5_count_118 ⟨Nat.le_of_ble_eq_true rfl, Nat.le_of_ble_eq_true rfl⟩) (fun ru10 u10 H locs hu10 hP hD hS => ?_)
                  obtain ⟨hu10, hru10⟩ := hu10
                  rw [hru10]
                  refine W.widen (k := 1) (n := 6) (Nat.le_of_ble_eq_true rfl) (Nat.le_of_ble_eq_true rfl) ?_
                  refine vx_ret ?_
                  exact g_iret (v := f_X3_openCells u10 (k + 1 + 1) - u10 (k + 1 + 5) 2) hx hb hr hlocks rfl hP hD hS ⟨(by simp only [th_X5_count, if_neg c_1, if_neg c_2, if_neg c_3, if_neg c_4, if_neg c_5, if_neg c_6, if_neg c_7, if_pos c_9]), ⟨(FX.of ⟨hu10.1, hu10.2.1⟩ hR2), by simp only [countF]; rw [if_neg c_1, if_neg c_2, if_neg c_3, if_neg c_4, if_neg c_5, if_neg c_6, if_neg c_7, if_pos c_9]; exact loose_ans hu10⟩⟩ dX5_count_121
                · skip
                  by_cases c_11 : a = nI 8
                  · skip
                    refine lv_tableIn (tgt := 122) (off := 121) hx hb dX5_count_1 (by rw [c_11]; decide) (by rw [c_11]; decide) (by rw [c_11]; decide) (by decide) ?_
                    refine lv_aload_n hx hb dX5_count_122 rfl (lv_at hl 0 rfl) ?_
                    refine g_get (κ := 1) (ci := 5) (v := .ref (ad (k + 1))) (C := RX5) (T := TX5) (N := 3) hx hb hts hown hK hP (k := k) hk (by decide) rfl (fun _ h => List.mem_cons_of_mem _ (List.mem_append_left _ (List.mem_append_left _ (List.mem_append_left _ (List.mem_append_left _ (List.mem_append_left _ (List.mem_append_right _ h))))))) rfl 0 (by decide) (hts _ (List.mem_of_getElem? (i := 3) rfl)) (fun _ h9 => h9) rfl dX5_count_123 ?_
                    refine g_getN (κ := 2) (ci := 0) (v := .int (I (k + 1) 6)) (C := RX0) (T := TX0) (N := 7) hx hb hts hown hK hP (k := (k + 1)) (kd_1_0 hk) (by decide) rfl (fun _ h => List.mem_cons_of_mem _ (List.mem_append_left _ (List.mem_append_left _ (List.mem_append_left _ (List.mem_append_left _ (List.mem_append_right _ h)))))) rfl 6 (by decide) (nwu20 hN) (fun _ h9 => h9) rfl dX5_count_126 ?_
                    refine W.widen (k := 1) (n := 6) (Nat.le_of_ble_eq_true rfl) (Nat.le_of_ble_eq_true rfl) ?_
                    refine vx_ret ?_
                    exact g_iret (v := I (k + 1) 6) hx hb hr hlocks rfl hP hD hS ⟨(by simp only [th_X5_count, if_neg c_1, if_neg c_2, if_neg c_3, if_neg c_4, if_neg c_5, if_neg c_6, if_neg c_7, if_neg c_9, if_pos c_11]), ⟨(FX.rf hR hR2), by simp only [countF]; rw [if_neg c_1, if_neg c_2, if_neg c_3, if_neg c_4, if_neg c_5, if_neg c_6, if_neg c_7, if_neg c_9]⟩⟩ dX5_count_129
                  · skip
                    have ho : ∀ j : Nat, j ≤ 8 → a ≠ nI j := by
                      intro j hj
                      rcases (show j = 0 ∨ j = 1 ∨ j = 2 ∨ j = 3 ∨ j = 4 ∨ j = 5 ∨ j = 6 ∨ j = 7 ∨ j = 8 from by omega) with rfl | rfl | rfl | rfl | rfl | rfl | rfl | rfl | rfl
                      · exact c_1
                      · exact c_2
                      · exact c_3
                      · exact c_4
                      · exact c_5
                      · exact c_6
                      · exact c_7
                      · exact c_9
                      · exact c_11
                    refine lv_tableOut (tgt := 130) hx hb dX5_count_1 (tsw (n := 8) (by decide) ho) (by decide) ?_
                    exact g_throw (own := RX5) (cls := "java/lang/IndexOutOfBoundsException") (text := "the counts are 0 to 8") (names := ["java/lang/RuntimeException", "java/lang/Exception"]) (ik := 76) (is := 177) (ic := 80) hx hb hst hown (by decide +kernel) (by decide +kernel) (hts _ (List.mem_of_getElem? (i := 1) rfl)) (hts _ (List.mem_of_getElem? (i := 2) rfl)) rfl (by decide) hN (fun w h => hts w (List.mem_cons_of_mem _ (List.mem_append_right _ h))) xb_80 xg_80 hX hS hP hD (hl.1.trans hml.symm) dX5_count_130 dX5_count_133 dX5_count_134 dX5_count_136 dX5_count_139 ht (Nat.le_of_ble_eq_true rfl) (Nat.le_of_ble_eq_true rfl) (Nat.le_of_ble_eq_true rfl) (Nat.le_of_ble_eq_true rfl) hlocks (Nat.le_of_ble_eq_true rfl) (Nat.le_of_ble_eq_true rfl) (by simp only [th_X5_count, if_neg c_1, if_neg c_2, if_neg c_3, if_neg c_4, if_neg c_5, if_neg c_6, if_neg c_7, if_neg c_9, if_neg c_11]; exact thr_1)

def th_X5_way (I : Mm) (k : Nat) (a : Int32) (b : Int32) (c0 : Int32) (d : Int32) (N : Nat) : Nat := (if th_X5_placeOf a b = 0 then (if th_X5_placeOf c0 d = 0 then 0 else (th_X5_placeOf c0 d)) else (th_X5_placeOf a b))
set_option maxHeartbeats 4000000 in
set_option maxRecDepth 100000 in
theorem c_X5_way (l : Launch) (hst : l.stackTraces = false) (D : va_G) (cs : Nat → ClassId) (ad : Nat → Nat) (I : Mm) (sz : Nat) (k : Nat) (hk : kC.getD k 0 = 1) (a : Int32) (b : Int32) (c0 : Int32) (d : Int32) (N : Nat) (hw : WT I (k + 1) N) (hR : RX (k + 1) I) (hR2 : RX (k + 26) I) : MetXI l yX5_way wsX5_way ({ frames := 7, cells := 2, slots := 12, locals := 103 }) kC cs D ad I sz [.ref (ad k), .int a, .int b, .int c0, .int d] (fun r u => th_X5_way I k a b c0 d N = 0 ∧ FX k u I ∧ wayF I (k + 1) (pl a b) (pl c0 d) r) (thrE (th_X5_way I k a b c0 d N)) 2 12 := by
  refine g_xmet (cc := cX5_way) (maxL := 7) (ret := (some .int)) (by decide) rfl (Nat.le_of_ble_eq_true rfl) ?_
  intro pg e s m args below meth c ls hx hb hr hml hts hown hlocks hsz hP hD hK hN hS hA hl hX ht
  have hown : s.vm.findClass RX5 = some m.cls := hown
  have hl : lv_has ls 7 [(0, .ref (ad k)), (1, .int a), (2, .int b), (3, .int c0), (4, .int d)] := hl
  have hN3 := hw.1
  have hN8 := hw.2.1
  obtain ⟨n0, q0, hq0⟩ := id hR
  refine lv_iload_n hx hb dX5_way_0 rfl (lv_at hl 1 rfl) ?_
  refine lv_iload_n hx hb dX5_way_1 rfl (lv_at hl 2 rfl) ?_
  refine g_xcalli hD hS hA (vx_runS (As := [.int a, .int b]) (rest := []) ⟨hx, hb, hml, hown, hts⟩ (c_X5_placeOf l hst D cs ad I s.heap.size a b) (va_cwS 2 hts gX5_way_X5_placeOf rfl rfl rfl (by decide +kernel) ⟨Nat.le_of_ble_eq_true rfl, Nat.le_of_ble_eq_true rfl⟩) (g_xpreS hP hD hK hN hX hS hsz) rfl rfl hl.1 rfl (lv_room (Nat.le_of_ble_eq_true rfl)) dX5_way_2 ⟨Nat.le_of_ble_eq_true rfl, Nat.le_of_ble_eq_true rfl⟩) (fun E ce q9 H locs hth9 hP hD hS hce hcv hcl => ?_) (fun r1 u1 H locs hw1 hP hD hS => ?_)
  · skip
    have c_1 := thrE_ne hth9
    exact g_xout ht hlocks hce hcv hcl hP hD hS (by simp only [th_X5_way, if_neg c_1]; exact hth9) (Nat.le_of_ble_eq_true rfl) (Nat.le_of_ble_eq_true rfl)
  · skip
    obtain ⟨c_1, hr1, hv1⟩ := hw1
    rw [hv1] at hP hD
    rw [hr1]
    have h256c_1 := pl_256 c_1
    rw [show f_X5_placeOf a b = nI (pl a b) from pl_nI c_1]
    refine lv_istore (lv' := [(5, .int (nI (pl a b))), (0, .ref (ad k)), (1, .int a), (2, .int b), (3, .int c0), (4, .int d)]) hx hb dX5_way_5 hl (by decide) rfl (fun ls hl => ?_)
    refine lv_iload_n hx hb dX5_way_7 rfl (lv_at hl 4 rfl) ?_
    refine lv_iload hx hb dX5_way_8 (lv_at hl 5 rfl) ?_
    refine g_xcalli hD hS hA (vx_runS (As := [.int c0, .int d]) (rest := []) ⟨hx, hb, hml, hown, hts⟩ (c_X5_placeOf l hst D cs ad I H.size c0 d) (va_cwS 2 hts gX5_way_X5_placeOf rfl rfl rfl (by decide +kernel) ⟨Nat.le_of_ble_eq_true rfl, Nat.le_of_ble_eq_true rfl⟩) (g_xpreS hP hD hK hN hX hS hsz) rfl rfl hl.1 rfl (lv_room (Nat.le_of_ble_eq_true rfl)) dX5_way_10 ⟨Nat.le_of_ble_eq_true rfl, Nat.le_of_ble_eq_true rfl⟩) (fun E ce q9 H locs hth9 hP hD hS hce hcv hcl => ?_) (fun r2 u2 H locs hw2 hP hD hS => ?_)
    · skip
      have c_2 := thrE_ne hth9
      exact g_xout ht hlocks hce hcv hcl hP hD hS (by simp only [th_X5_way, if_pos c_1, if_neg c_2]; exact hth9) (Nat.le_of_ble_eq_true rfl) (Nat.le_of_ble_eq_true rfl)
    · skip
      obtain ⟨c_2, hr2, hv2⟩ := hw2
      rw [hv2] at hP hD
      rw [hr2]
      have h256c_2 := pl_256 c_2
      rw [show f_X5_placeOf c0 d = nI (pl c0 d) from pl_nI c_2]
      refine lv_istore (lv' := [(6, .int (nI (pl c0 d))), (5, .int (nI (pl a b))), (0, .ref (ad k)), (1, .int a), (2, .int b), (3, .int c0), (4, .int d)]) hx hb dX5_way_13 hl (by decide) rfl (fun ls hl => ?_)
      refine lv_aload_n hx hb dX5_way_15 rfl (lv_at hl 2 rfl) ?_
      refine g_get (κ := 1) (ci := 5) (v := .ref (ad (k + 1))) (C := RX5) (T := TX5) (N := 3) hx hb hts hown hK hP (k := k) hk (by decide) rfl (fun _ h => List.mem_cons_of_mem _ (List.mem_append_left _ (List.mem_append_left _ (List.mem_append_left _ (List.mem_append_left _ (List.mem_append_right _ h)))))) rfl 0 (by decide) (hts _ (List.mem_of_getElem? (i := 1) rfl)) (fun _ h9 => h9) rfl dX5_way_16 ?_
      refine lv_iload hx hb dX5_way_19 (lv_at hl 1 rfl) ?_
      refine lv_iload hx hb dX5_way_21 (lv_at hl 0 rfl) ?_
      refine g_calli hD hS hA (va_runV (As := [.int (nI (pl a b)), .int (nI (pl c0 d))]) (rest := []) ⟨hx, hb, hml, hown, hts⟩ (c_X0_stepsBetween l D cs ad I H.size (k + 1) (kd_1_0 hk) (pl a b) (by omega) (pl c0 d) (by omega) n0 q0 hq0) (cwV 2 hts gX5_way_X0_stepsBetween rfl rfl rfl (by decide +kernel) ⟨Nat.le_of_ble_eq_true rfl, Nat.le_of_ble_eq_true rfl⟩) (g_preV hP hD hK hN (k := (k + 1)) (kd_1_0 hk) (by decide) rfl rfl rfl rfl) rfl rfl hl.1 rfl (lv_room (Nat.le_of_ble_eq_true rfl)) dX5_way_23 ⟨Nat.le_of_ble_eq_true rfl, Nat.le_of_ble_eq_true rfl⟩) (fun ru3 u3 H locs hu3 hP hD hS => ?_)
      obtain ⟨hu3, hu3R, hru3⟩ := hu3
      refine W.widen (k := 2) (n := 12) (Nat.le_of_ble_eq_true rfl) (Nat.le_of_ble_eq_true rfl) ?_
      refine vx_ret ?_
      exact g_iret (v := ru3) hx hb hr hlocks rfl hP hD hS ⟨(by simp only [th_X5_way, if_pos c_1, if_pos c_2]), ⟨FX.of ⟨hu3, hu3R⟩ hR2, hru3⟩⟩ dX5_way_26

noncomputable def cavesF (I : Mm) (z N : Nat) (w : Int32) : Int32 := if w = nI 0 then nI (cvs (opn I z) (fun c => (-1 : Int32) = nI c) 256) else if w = nI 1 then nI (lgst (opn I z) (fun _ => False) 256) else nI (crs (opn I z) (frC I z) (plC I z) N)

def th_X5_caves (I : Mm) (k : Nat) (a : Int32) (N : Nat) : Nat := (if a = nI 0 then 0 else (if a = nI 1 then 0 else (if a = nI 2 then 0 else 1)))
set_option maxHeartbeats 4000000 in
set_option maxRecDepth 100000 in
theorem c_X5_caves (l : Launch) (hst : l.stackTraces = false) (D : va_G) (cs : Nat → ClassId) (ad : Nat → Nat) (I : Mm) (sz : Nat) (k : Nat) (hk : kC.getD k 0 = 1) (a : Int32) (N : Nat) (hw : WT I (k + 1) N) (hR : RX (k + 1) I) (hR2 : RX (k + 26) I) : MetXI l yX5_caves wsX5_caves ({ frames := 6, cells := 1, slots := 6, locals := 82 }) kC cs D ad I sz [.ref (ad k), .int a] (fun r u => th_X5_caves I k a N = 0 ∧ FX k u I ∧ r = cavesF I (k + 1) N a) (thrE (th_X5_caves I k a N)) 1 6 := by
  refine g_xmet (cc := cX5_caves) (maxL := 2) (ret := (some .int)) (by decide) rfl (Nat.le_of_ble_eq_true rfl) ?_
  intro pg e s m args below meth c ls hx hb hr hml hts hown hlocks hsz hP hD hK hN hS hA hl hX ht
  have hown : s.vm.findClass RX5 = some m.cls := hown
  have hl : lv_has ls 2 [(0, .ref (ad k)), (1, .int a)] := hl
  have hN3 := hw.1
  have hN8 := hw.2.1
  obtain ⟨n0, q0, hq0⟩ := id hR
  refine lv_iload_n hx hb dX5_caves_0 rfl (lv_at hl 1 rfl) ?_
  by_cases c_1 : a = nI 0
  · skip
    refine lv_tableIn (tgt := 28) (off := 27) hx hb dX5_caves_1 (by rw [c_1]; decide) (by rw [c_1]; decide) (by rw [c_1]; decide) (by decide) ?_
    refine lv_aload_n hx hb dX5_caves_28 rfl (lv_at hl 0 rfl) ?_
    refine g_get (κ := 1) (ci := 5) (v := .ref (ad (k + 1))) (C := RX5) (T := TX5) (N := 3) hx hb hts hown hK hP (k := k) hk (by decide) rfl (fun _ h => List.mem_cons_of_mem _ (List.mem_append_left _ (List.mem_append_left _ (List.mem_append_left _ (List.mem_append_left _ (List.mem_append_left _ (List.mem_append_right _ h))))))) rfl 0 (by decide) (hts _ (List.mem_of_getElem? (i := 3) rfl)) (fun _ h9 => h9) rfl dX5_caves_29 ?_
    refine lv_iconst (v := -1) hx hb dX5_caves_32 (by decide) ?_
    refine g_calli hD hS hA (va_runV (As := [.int (-1)]) (rest := []) ⟨hx, hb, hml, hown, hts⟩ (c_X0_cavesWithout l D cs ad I s.heap.size (k + 1) (kd_1_0 hk) (-1) n0 q0 hq0 (Or.inl rfl)) (cwV 1 hts gX5_caves_X0_cavesWithout rfl rfl rfl (by decide +kernel) ⟨Nat.le_of_ble_eq_true rfl, Nat.le_of_ble_eq_true rfl⟩) (g_preV hP hD hK hN (k := (k + 1)) (kd_1_0 hk) (by decide) rfl rfl rfl rfl) rfl rfl hl.1 rfl (lv_room (Nat.le_of_ble_eq_true rfl)) dX5_caves_33 ⟨Nat.le_of_ble_eq_true rfl, Nat.le_of_ble_eq_true rfl⟩) (fun ru2 u2 H locs hu2 hP hD hS => ?_)
    obtain ⟨hu2, hu2R, hru2⟩ := hu2
    rw [hru2]
    refine W.widen (k := 1) (n := 6) (Nat.le_of_ble_eq_true rfl) (Nat.le_of_ble_eq_true rfl) ?_
    refine vx_ret ?_
    exact g_iret (v := nI (cvs (opn I (k + 1)) (fun c => -1 = nI c) 256)) hx hb hr hlocks rfl hP hD hS ⟨(by simp only [th_X5_caves, if_pos c_1]), ⟨FX.of ⟨hu2, hu2R⟩ hR2, by simp only [cavesF]; rw [if_pos c_1]⟩⟩ dX5_caves_36
  · skip
    by_cases c_3 : a = nI 1
    · skip
      refine lv_tableIn (tgt := 37) (off := 36) hx hb dX5_caves_1 (by rw [c_3]; decide) (by rw [c_3]; decide) (by rw [c_3]; decide) (by decide) ?_
      refine lv_aload_n hx hb dX5_caves_37 rfl (lv_at hl 0 rfl) ?_
      refine g_get (κ := 1) (ci := 5) (v := .ref (ad (k + 1))) (C := RX5) (T := TX5) (N := 3) hx hb hts hown hK hP (k := k) hk (by decide) rfl (fun _ h => List.mem_cons_of_mem _ (List.mem_append_left _ (List.mem_append_left _ (List.mem_append_left _ (List.mem_append_left _ (List.mem_append_left _ (List.mem_append_right _ h))))))) rfl 0 (by decide) (hts _ (List.mem_of_getElem? (i := 3) rfl)) (fun _ h9 => h9) rfl dX5_caves_38 ?_
      refine g_calli hD hS hA (va_runV (As := []) (rest := []) ⟨hx, hb, hml, hown, hts⟩ (c_X0_largestCave l D cs ad I s.heap.size (k + 1) (kd_1_0 hk) n0 q0 hq0) (cwV 0 hts gX5_caves_X0_largestCave rfl rfl rfl (by decide +kernel) ⟨Nat.le_of_ble_eq_true rfl, Nat.le_of_ble_eq_true rfl⟩) (g_preV hP hD hK hN (k := (k + 1)) (kd_1_0 hk) (by decide) rfl rfl rfl rfl) rfl rfl hl.1 rfl (lv_room (Nat.le_of_ble_eq_true rfl)) dX5_caves_41 ⟨Nat.le_of_ble_eq_true rfl, Nat.le_of_ble_eq_true rfl⟩) (fun ru4 u4 H locs hu4 hP hD hS => ?_)
      obtain ⟨hu4, hu4R, hru4⟩ := hu4
      rw [hru4]
      refine W.widen (k := 1) (n := 6) (Nat.le_of_ble_eq_true rfl) (Nat.le_of_ble_eq_true rfl) ?_
      refine vx_ret ?_
      exact g_iret (v := nI (lgst (opn I (k + 1)) (fun _ => False) 256)) hx hb hr hlocks rfl hP hD hS ⟨(by simp only [th_X5_caves, if_neg c_1, if_pos c_3]), ⟨FX.of ⟨hu4, hu4R⟩ hR2, by simp only [cavesF]; rw [if_neg c_1, if_pos c_3]⟩⟩ dX5_caves_44
    · skip
      by_cases c_5 : a = nI 2
      · skip
        refine lv_tableIn (tgt := 45) (off := 44) hx hb dX5_caves_1 (by rw [c_5]; decide) (by rw [c_5]; decide) (by rw [c_5]; decide) (by decide) ?_
        refine lv_aload_n hx hb dX5_caves_45 rfl (lv_at hl 0 rfl) ?_
        refine g_get (κ := 1) (ci := 5) (v := .ref (ad (k + 1))) (C := RX5) (T := TX5) (N := 3) hx hb hts hown hK hP (k := k) hk (by decide) rfl (fun _ h => List.mem_cons_of_mem _ (List.mem_append_left _ (List.mem_append_left _ (List.mem_append_left _ (List.mem_append_left _ (List.mem_append_left _ (List.mem_append_right _ h))))))) rfl 0 (by decide) (hts _ (List.mem_of_getElem? (i := 3) rfl)) (fun _ h9 => h9) rfl dX5_caves_46 ?_
        refine g_calli hD hS hA (va_runV (As := []) (rest := []) ⟨hx, hb, hml, hown, hts⟩ (c_X0_cavesWithCrew l D cs ad I s.heap.size (k + 1) (kd_1_0 hk) N (hw.wz hR)) (cwV 0 hts gX5_caves_X0_cavesWithCrew rfl rfl rfl (by decide +kernel) ⟨Nat.le_of_ble_eq_true rfl, Nat.le_of_ble_eq_true rfl⟩) (g_preV hP hD hK hN (k := (k + 1)) (kd_1_0 hk) (by decide) rfl rfl rfl rfl) rfl rfl hl.1 rfl (lv_room (Nat.le_of_ble_eq_true rfl)) dX5_caves_49 ⟨Nat.le_of_ble_eq_true rfl, Nat.le_of_ble_eq_true rfl⟩) (fun ru6 u6 H locs hu6 hP hD hS => ?_)
        obtain ⟨hu6, hu6R, hru6⟩ := hu6
        rw [hru6]
        refine W.widen (k := 1) (n := 6) (Nat.le_of_ble_eq_true rfl) (Nat.le_of_ble_eq_true rfl) ?_
        refine vx_ret ?_
        exact g_iret (v := nI (crs (opn I (k + 1)) (frC I (k + 1)) (plC I (k + 1)) N)) hx hb hr hlocks rfl hP hD hS ⟨(by simp only [th_X5_caves, if_neg c_1, if_neg c_3, if_pos c_5]), ⟨FX.of ⟨hu6, hu6R⟩ hR2, by simp only [cavesF]; rw [if_neg c_1, if_neg c_3]⟩⟩ dX5_caves_52
      · skip
        have ho : ∀ j : Nat, j ≤ 2 → a ≠ nI j := by
          intro j hj
          rcases (show j = 0 ∨ j = 1 ∨ j = 2 from by omega) with rfl | rfl | rfl
          · exact c_1
          · exact c_3
          · exact c_5
        refine lv_tableOut (tgt := 53) hx hb dX5_caves_1 (tsw (n := 2) (by decide) ho) (by decide) ?_
        exact g_throw (own := RX5) (cls := "java/lang/IndexOutOfBoundsException") (text := "caves tell 0 to 2") (names := ["java/lang/RuntimeException", "java/lang/Exception"]) (ik := 76) (is := 195) (ic := 80) hx hb hst hown (by decide +kernel) (by decide +kernel) (hts _ (List.mem_of_getElem? (i := 1) rfl)) (hts _ (List.mem_of_getElem? (i := 2) rfl)) rfl (by decide) hN (fun w h => hts w (List.mem_cons_of_mem _ (List.mem_append_right _ h))) xb_80 xg_80 hX hS hP hD (hl.1.trans hml.symm) dX5_caves_53 dX5_caves_56 dX5_caves_57 dX5_caves_59 dX5_caves_62 ht (Nat.le_of_ble_eq_true rfl) (Nat.le_of_ble_eq_true rfl) (Nat.le_of_ble_eq_true rfl) (Nat.le_of_ble_eq_true rfl) hlocks (Nat.le_of_ble_eq_true rfl) (Nat.le_of_ble_eq_true rfl) (by simp only [th_X5_caves, if_neg c_1, if_neg c_3, if_neg c_5]; exact thr_1)

noncomputable def withoutF (I : Mm) (z c : Nat) : Int32 := @ite _ (opn I z c) (Classical.propDecidable _) (nI (cvs (opn I z) (fun x => nI c = nI x) 256)) (-1)

def th_X5_without (I : Mm) (k : Nat) (a : Int32) (b : Int32) (N : Nat) : Nat := (if th_X5_placeOf a b = 0 then (if (f_X3_isOpen I (k + 1 + 1) (nI (pl a b))) = 0 then 0 else 0) else (th_X5_placeOf a b))
set_option maxHeartbeats 4000000 in
set_option maxRecDepth 100000 in
theorem c_X5_without (l : Launch) (hst : l.stackTraces = false) (D : va_G) (cs : Nat → ClassId) (ad : Nat → Nat) (I : Mm) (sz : Nat) (k : Nat) (hk : kC.getD k 0 = 1) (a : Int32) (b : Int32) (N : Nat) (hw : WT I (k + 1) N) (hR : RX (k + 1) I) (hR2 : RX (k + 26) I) : MetXI l yX5_without wsX5_without ({ frames := 7, cells := 1, slots := 6, locals := 103 }) kC cs D ad I sz [.ref (ad k), .int a, .int b] (fun r u => th_X5_without I k a b N = 0 ∧ FX k u I ∧ r = withoutF I (k + 1) (pl a b)) (thrE (th_X5_without I k a b N)) 1 6 := by
  refine g_xmet (cc := cX5_without) (maxL := 4) (ret := (some .int)) (by decide) rfl (Nat.le_of_ble_eq_true rfl) ?_
  intro pg e s m args below meth c ls hx hb hr hml hts hown hlocks hsz hP hD hK hN hS hA hl hX ht
  have hown : s.vm.findClass RX5 = some m.cls := hown
  have hl : lv_has ls 4 [(0, .ref (ad k)), (1, .int a), (2, .int b)] := hl
  have hN3 := hw.1
  have hN8 := hw.2.1
  obtain ⟨n0, q0, hq0⟩ := id hR
  refine lv_iload_n hx hb dX5_without_0 rfl (lv_at hl 1 rfl) ?_
  refine lv_iload_n hx hb dX5_without_1 rfl (lv_at hl 2 rfl) ?_
  refine g_xcalli hD hS hA (vx_runS (As := [.int a, .int b]) (rest := []) ⟨hx, hb, hml, hown, hts⟩ (c_X5_placeOf l hst D cs ad I s.heap.size a b) (va_cwS 2 hts gX5_without_X5_placeOf rfl rfl rfl (by decide +kernel) ⟨Nat.le_of_ble_eq_true rfl, Nat.le_of_ble_eq_true rfl⟩) (g_xpreS hP hD hK hN hX hS hsz) rfl rfl hl.1 rfl (lv_room (Nat.le_of_ble_eq_true rfl)) dX5_without_2 ⟨Nat.le_of_ble_eq_true rfl, Nat.le_of_ble_eq_true rfl⟩) (fun E ce q9 H locs hth9 hP hD hS hce hcv hcl => ?_) (fun r1 u1 H locs hw1 hP hD hS => ?_)
  · skip
    have c_1 := thrE_ne hth9
    exact g_xout ht hlocks hce hcv hcl hP hD hS (by simp only [th_X5_without, if_neg c_1]; exact hth9) (Nat.le_of_ble_eq_true rfl) (Nat.le_of_ble_eq_true rfl)
  · skip
    obtain ⟨c_1, hr1, hv1⟩ := hw1
    rw [hv1] at hP hD
    rw [hr1]
    have h256c_1 := pl_256 c_1
    rw [show f_X5_placeOf a b = nI (pl a b) from pl_nI c_1]
    refine lv_istore_n (lv' := [(3, .int (nI (pl a b))), (0, .ref (ad k)), (1, .int a), (2, .int b)]) hx hb dX5_without_5 rfl hl (by decide) rfl (fun ls hl => ?_)
    refine lv_aload_n hx hb dX5_without_6 rfl (lv_at hl 1 rfl) ?_
    refine g_get (κ := 1) (ci := 5) (v := .ref (ad (k + 1))) (C := RX5) (T := TX5) (N := 3) hx hb hts hown hK hP (k := k) hk (by decide) rfl (fun _ h => List.mem_cons_of_mem _ (List.mem_append_left _ (List.mem_append_left _ (List.mem_append_left _ (List.mem_append_left _ (List.mem_append_right _ h)))))) rfl 0 (by decide) (hts _ (List.mem_of_getElem? (i := 1) rfl)) (fun _ h9 => h9) rfl dX5_without_7 ?_
    refine g_getN (κ := 2) (ci := 0) (v := .ref (ad (k + 1 + 1))) (C := RX0) (T := TX0) (N := 7) hx hb hts hown hK hP (k := (k + 1)) (kd_1_0 hk) (by decide) rfl (fun _ h => List.mem_cons_of_mem _ (List.mem_append_left _ (List.mem_append_left _ (List.mem_append_left _ (List.mem_append_right _ h))))) rfl 0 (by decide) (nwu16 hN) (fun _ h9 => h9) rfl dX5_without_10 ?_
    refine lv_iload_n hx hb dX5_without_13 rfl (lv_at hl 0 rfl) ?_
    refine g_callF (F := f_X3_isOpen I (k + 1 + 1) (nI (pl a b))) hD hS hA (va_runV (As := [.int (nI (pl a b))]) (rest := []) ⟨hx, hb, hml, hown, hts⟩ (c_X3_isOpen l D cs ad I H.size (k + 1 + 1) (kd_2_0 (kd_1_0 hk)) (nI (pl a b))) (cwV 1 hts gX5_without_X3_isOpen rfl rfl rfl (by decide +kernel) ⟨Nat.le_of_ble_eq_true rfl, Nat.le_of_ble_eq_true rfl⟩) (g_preV hP hD hK hN (k := (k + 1 + 1)) (kd_2_0 (kd_1_0 hk)) (by decide) rfl rfl rfl rfl) rfl rfl hl.1 rfl (lv_room (Nat.le_of_ble_eq_true rfl)) dX5_without_14 ⟨Nat.le_of_ble_eq_true rfl, Nat.le_of_ble_eq_true rfl⟩) (fun H locs hP hD hS => ?_)
    refine lv_if_eq (tgt := 31) hx hb dX5_without_17 (by decide) (fun c_2 => ?_) (fun c_2 => ?_)
    · skip
      refine lv_iconst (v := -1) hx hb dX5_without_31 (by decide) ?_
      refine W.widen (k := 1) (n := 6) (Nat.le_of_ble_eq_true rfl) (Nat.le_of_ble_eq_true rfl) ?_
      refine vx_ret ?_
      exact g_iret (v := -1) hx hb hr hlocks rfl hP hD hS ⟨(by simp only [th_X5_without, if_pos c_1, if_pos c_2]), ⟨(FX.rf hR hR2), by simp only [withoutF]; rw [if_neg (open_n h256c_1 c_2)]⟩⟩ dX5_without_32
    · skip
      refine lv_aload_n hx hb dX5_without_20 rfl (lv_at hl 1 rfl) ?_
      refine g_get (κ := 1) (ci := 5) (v := .ref (ad (k + 1))) (C := RX5) (T := TX5) (N := 3) hx hb hts hown hK hP (k := k) hk (by decide) rfl (fun _ h => List.mem_cons_of_mem _ (List.mem_append_left _ (List.mem_append_left _ (List.mem_append_left _ (List.mem_append_left _ (List.mem_append_right _ h)))))) rfl 0 (by decide) (hts _ (List.mem_of_getElem? (i := 1) rfl)) (fun _ h9 => h9) rfl dX5_without_21 ?_
      refine lv_iload_n hx hb dX5_without_24 rfl (lv_at hl 0 rfl) ?_
      refine g_calli hD hS hA (va_runV (As := [.int (nI (pl a b))]) (rest := []) ⟨hx, hb, hml, hown, hts⟩ (c_X0_cavesWithout l D cs ad I H.size (k + 1) (kd_1_0 hk) (nI (pl a b)) n0 q0 hq0 (Or.inr ⟨_, h256c_1, rfl⟩)) (cwV 1 hts gX5_without_X0_cavesWithout rfl rfl rfl (by decide +kernel) ⟨Nat.le_of_ble_eq_true rfl, Nat.le_of_ble_eq_true rfl⟩) (g_preV hP hD hK hN (k := (k + 1)) (kd_1_0 hk) (by decide) rfl rfl rfl rfl) rfl rfl hl.1 rfl (lv_room (Nat.le_of_ble_eq_true rfl)) dX5_without_25 ⟨Nat.le_of_ble_eq_true rfl, Nat.le_of_ble_eq_true rfl⟩) (fun ru3 u3 H locs hu3 hP hD hS => ?_)
      obtain ⟨hu3, hu3R, hru3⟩ := hu3
      rw [hru3]
      refine lv_goto (tgt := 32) hx hb dX5_without_28 (by decide) ?_
      refine W.widen (k := 1) (n := 6) (Nat.le_of_ble_eq_true rfl) (Nat.le_of_ble_eq_true rfl) ?_
      refine vx_ret ?_
      exact g_iret (v := nI (cvs (opn I (k + 1)) (fun c => nI (pl a b) = nI c) 256)) hx hb hr hlocks rfl hP hD hS ⟨(by simp only [th_X5_without, if_pos c_1, if_neg c_2]), ⟨FX.of ⟨hu3, hu3R⟩ hR2, by simp only [withoutF]; rw [if_pos (open_y h256c_1 c_2)]⟩⟩ dX5_without_32

def th_X5_dig (I : Mm) (k : Nat) (a : Int32) (b : Int32) (c0 : Int32) (d : Int32) (N : Nat) (hd : Nat → Nat) : Nat := (if th_X5_placeOf a b = 0 then (if th_X5_placeOf c0 d = 0 then 0 else (th_X5_placeOf c0 d)) else (th_X5_placeOf a b))
set_option maxHeartbeats 4000000 in
set_option maxRecDepth 100000 in
theorem c_X5_dig (l : Launch) (hst : l.stackTraces = false) (D : va_G) (cs : Nat → ClassId) (ad : Nat → Nat) (I : Mm) (sz : Nat) (k : Nat) (hk : kC.getD k 0 = 1) (a : Int32) (b : Int32) (c0 : Int32) (d : Int32) (N : Nat) (hw : WT I (k + 1) N) (hR : RX (k + 1) I) (hR2 : RX (k + 26) I) (hd : Nat → Nat) (hh : Hd I (k + 1 + 1) hd) : MetXI l yX5_dig wsX5_dig ({ frames := 7, cells := 2, slots := 12, locals := 103 }) kC cs D ad I sz [.ref (ad k), .int a, .int b, .int c0, .int d] (fun r u => th_X5_dig I k a b c0 d N hd = 0 ∧ FX k u I ∧ DSr hd (pl a b) (pl c0 d) r) (thrE (th_X5_dig I k a b c0 d N hd)) 2 12 := by
  refine g_xmet (cc := cX5_dig) (maxL := 7) (ret := (some .int)) (by decide) rfl (Nat.le_of_ble_eq_true rfl) ?_
  intro pg e s m args below meth c ls hx hb hr hml hts hown hlocks hsz hP hD hK hN hS hA hl hX ht
  have hown : s.vm.findClass RX5 = some m.cls := hown
  have hl : lv_has ls 7 [(0, .ref (ad k)), (1, .int a), (2, .int b), (3, .int c0), (4, .int d)] := hl
  have hN3 := hw.1
  have hN8 := hw.2.1
  obtain ⟨n0, q0, hq0⟩ := id hR
  refine lv_iload_n hx hb dX5_dig_0 rfl (lv_at hl 1 rfl) ?_
  refine lv_iload_n hx hb dX5_dig_1 rfl (lv_at hl 2 rfl) ?_
  refine g_xcalli hD hS hA (vx_runS (As := [.int a, .int b]) (rest := []) ⟨hx, hb, hml, hown, hts⟩ (c_X5_placeOf l hst D cs ad I s.heap.size a b) (va_cwS 2 hts gX5_dig_X5_placeOf rfl rfl rfl (by decide +kernel) ⟨Nat.le_of_ble_eq_true rfl, Nat.le_of_ble_eq_true rfl⟩) (g_xpreS hP hD hK hN hX hS hsz) rfl rfl hl.1 rfl (lv_room (Nat.le_of_ble_eq_true rfl)) dX5_dig_2 ⟨Nat.le_of_ble_eq_true rfl, Nat.le_of_ble_eq_true rfl⟩) (fun E ce q9 H locs hth9 hP hD hS hce hcv hcl => ?_) (fun r1 u1 H locs hw1 hP hD hS => ?_)
  · skip
    have c_1 := thrE_ne hth9
    exact g_xout ht hlocks hce hcv hcl hP hD hS (by simp only [th_X5_dig, if_neg c_1]; exact hth9) (Nat.le_of_ble_eq_true rfl) (Nat.le_of_ble_eq_true rfl)
  · skip
    obtain ⟨c_1, hr1, hv1⟩ := hw1
    rw [hv1] at hP hD
    rw [hr1]
    have h256c_1 := pl_256 c_1
    rw [show f_X5_placeOf a b = nI (pl a b) from pl_nI c_1]
    refine lv_istore (lv' := [(5, .int (nI (pl a b))), (0, .ref (ad k)), (1, .int a), (2, .int b), (3, .int c0), (4, .int d)]) hx hb dX5_dig_5 hl (by decide) rfl (fun ls hl => ?_)
    refine lv_iload_n hx hb dX5_dig_7 rfl (lv_at hl 4 rfl) ?_
    refine lv_iload hx hb dX5_dig_8 (lv_at hl 5 rfl) ?_
    refine g_xcalli hD hS hA (vx_runS (As := [.int c0, .int d]) (rest := []) ⟨hx, hb, hml, hown, hts⟩ (c_X5_placeOf l hst D cs ad I H.size c0 d) (va_cwS 2 hts gX5_dig_X5_placeOf rfl rfl rfl (by decide +kernel) ⟨Nat.le_of_ble_eq_true rfl, Nat.le_of_ble_eq_true rfl⟩) (g_xpreS hP hD hK hN hX hS hsz) rfl rfl hl.1 rfl (lv_room (Nat.le_of_ble_eq_true rfl)) dX5_dig_10 ⟨Nat.le_of_ble_eq_true rfl, Nat.le_of_ble_eq_true rfl⟩) (fun E ce q9 H locs hth9 hP hD hS hce hcv hcl => ?_) (fun r2 u2 H locs hw2 hP hD hS => ?_)
    · skip
      have c_2 := thrE_ne hth9
      exact g_xout ht hlocks hce hcv hcl hP hD hS (by simp only [th_X5_dig, if_pos c_1, if_neg c_2]; exact hth9) (Nat.le_of_ble_eq_true rfl) (Nat.le_of_ble_eq_true rfl)
    · skip
      obtain ⟨c_2, hr2, hv2⟩ := hw2
      rw [hv2] at hP hD
      rw [hr2]
      have h256c_2 := pl_256 c_2
      rw [show f_X5_placeOf c0 d = nI (pl c0 d) from pl_nI c_2]
      refine lv_istore (lv' := [(6, .int (nI (pl c0 d))), (5, .int (nI (pl a b))), (0, .ref (ad k)), (1, .int a), (2, .int b), (3, .int c0), (4, .int d)]) hx hb dX5_dig_13 hl (by decide) rfl (fun ls hl => ?_)
      refine lv_aload_n hx hb dX5_dig_15 rfl (lv_at hl 2 rfl) ?_
      refine g_get (κ := 1) (ci := 5) (v := .ref (ad (k + 51))) (C := RX5) (T := TX5) (N := 3) hx hb hts hown hK hP (k := k) hk (by decide) rfl (fun _ h => List.mem_cons_of_mem _ (List.mem_append_left _ (List.mem_append_left _ (List.mem_append_left _ (List.mem_append_left _ (List.mem_append_right _ h)))))) rfl 2 (by decide) (hts _ (List.mem_of_getElem? (i := 1) rfl)) (fun _ h9 => h9) rfl dX5_dig_16 ?_
      refine lv_aload_n hx hb dX5_dig_19 rfl (lv_at hl 2 rfl) ?_
      refine g_get (κ := 1) (ci := 5) (v := .ref (ad (k + 1))) (C := RX5) (T := TX5) (N := 3) hx hb hts hown hK hP (k := k) hk (by decide) rfl (fun _ h => List.mem_cons_of_mem _ (List.mem_append_left _ (List.mem_append_left _ (List.mem_append_left _ (List.mem_append_left _ (List.mem_append_right _ h)))))) rfl 0 (by decide) (hts _ (List.mem_of_getElem? (i := 2) rfl)) (fun _ h9 => h9) rfl dX5_dig_20 ?_
      refine g_getN (κ := 2) (ci := 0) (v := .ref (ad (k + 1 + 1))) (C := RX0) (T := TX0) (N := 7) hx hb hts hown hK hP (k := (k + 1)) (kd_1_0 hk) (by decide) rfl (fun _ h => List.mem_cons_of_mem _ (List.mem_append_left _ (List.mem_append_left _ (List.mem_append_left _ (List.mem_append_right _ h))))) rfl 0 (by decide) (nwu16 hN) (fun _ h9 => h9) rfl dX5_dig_23 ?_
      refine lv_iload hx hb dX5_dig_26 (lv_at hl 1 rfl) ?_
      refine lv_iload hx hb dX5_dig_28 (lv_at hl 0 rfl) ?_
      refine g_calli hD hS hA (va_runV (As := [.ref (ad (k + 1 + 1)), .int (nI (pl a b)), .int (nI (pl c0 d))]) (rest := []) ⟨hx, hb, hml, hown, hts⟩ (c_X2_leastSum l D cs ad I H.size (k + 51) (kd_1_2 hk) (k + 1 + 1) (kd_2_0 (kd_1_0 hk)) (pl a b) (pl c0 d) hd hh (by omega) h256c_1 h256c_2) (cwV 3 hts gX5_dig_X2_leastSum rfl rfl rfl (by decide +kernel) ⟨Nat.le_of_ble_eq_true rfl, Nat.le_of_ble_eq_true rfl⟩) (g_preV hP hD hK hN (k := (k + 51)) (kd_1_2 hk) (by decide) rfl rfl rfl rfl) rfl rfl hl.1 rfl (lv_room (Nat.le_of_ble_eq_true rfl)) dX5_dig_30 ⟨Nat.le_of_ble_eq_true rfl, Nat.le_of_ble_eq_true rfl⟩) (fun ru3 u3 H locs hu3 hP hD hS => ?_)
      obtain ⟨hu3, hru3⟩ := hu3
      refine W.widen (k := 2) (n := 12) (Nat.le_of_ble_eq_true rfl) (Nat.le_of_ble_eq_true rfl) ?_
      refine vx_ret ?_
      exact g_iret (v := ru3) hx hb hr hlocks rfl hP hD hS ⟨(by simp only [th_X5_dig, if_pos c_1, if_pos c_2]), ⟨⟨fun a h1 h2 _ _ _ => hu3 a (by omega) (by omega) (by omega), hR.eq (by rw [hu3 _ (by omega) (by omega) (by omega)]) (hu3 _ (by omega) (by omega) (by omega)) (hu3 _ (by omega) (by omega) (by omega)), hR2.eq (by rw [hu3 _ (by omega) (by omega) (by omega)]) (hu3 _ (by omega) (by omega) (by omega)) (hu3 _ (by omega) (by omega) (by omega))⟩, hru3⟩⟩ dX5_dig_33
