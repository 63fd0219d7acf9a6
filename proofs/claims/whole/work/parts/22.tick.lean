def WT (I : Mm) (z N : Nat) : Prop := I z 3 = nI N ∧ N ≤ 8 ∧ (∀ i, i < N → ∃ p, p < 256 ∧ I (z + 8 + (1 + i)) 0 = nI p) ∧ (∀ i, i < 8 → I (z + 8 + (1 + i)) 4 = 0 ∨ I (z + 8 + (1 + i)) 4 = 1) ∧ (∀ i, i < N → ∃ w, w ≤ 24 ∧ I (z + 8 + (1 + i)) 7 = nI w)
theorem WT.wz {I : Mm} {z N : Nat} (h : WT I z N) (hR : RX z I) : WZ I z N := ⟨h.1, h.2.1, hR, h.2.2.1⟩
theorem WT.eq {I J : Mm} {z N : Nat} (h : WT I z N) (e3 : J z 3 = I z 3) (eT : ∀ i, i < 8 → J (z + 8 + (1 + i)) 0 = I (z + 8 + (1 + i)) 0 ∧ J (z + 8 + (1 + i)) 4 = I (z + 8 + (1 + i)) 4 ∧ J (z + 8 + (1 + i)) 7 = I (z + 8 + (1 + i)) 7) : WT J z N := by
  obtain ⟨a, b, c, d, e⟩ := h
  refine ⟨e3.trans a, b, fun i hi => ?_, fun i hi => ?_, fun i hi => ?_⟩
  · rw [(eT i (by omega)).1]; exact c i hi
  · rw [(eT i hi).2.1]; exact d i hi
  · rw [(eT i (by omega)).2.2]; exact e i hi
theorem WT.eqx {I J : Mm} {z N : Nat} (h : WT I z N) (e : EqX z J I) : WT J z N :=
  h.eq (by rw [e.z]) (fun i _ => by rw [vT e]; exact ⟨rfl, rfl, rfl⟩)
/-- a word that WT doesn't look at -/
theorem WT.wr {I : Mm} {z N : Nat} (h : WT I z N) (k j : Nat) (x : Int32) (hj : j ≠ 0 ∧ j ≠ 4 ∧ j ≠ 7 ∧ (j = 3 → k ≠ z)) : WT (wr I k j x) z N := by
  refine h.eq ?_ (fun i _ => ⟨?_, ?_, ?_⟩)
  · by_cases e : z = k
    · subst e
      by_cases e3 : j = 3
      · exact absurd rfl (hj.2.2.2 e3)
      · rw [wr_sn _ _ _ (Ne.symm e3)]
    · rw [wr_n _ _ _ e]
  all_goals
    by_cases e : z + 8 + (1 + i) = k
    · rw [← e, wr_sn _ _ _ (by omega)]
    · rw [wr_n _ _ _ e]
theorem WT.wrz {I : Mm} {z N : Nat} (h : WT I z N) (j : Nat) (x : Int32) (hj : j ≠ 3) : WT (_root_.Jvm.Pilot.CSnowMazeLaw_law_r9786_1e919e.wr I z j x) z N :=
  h.eq (by rw [wr_sn _ _ _ (Ne.symm hj)]) (fun i _ => by rw [wr_n _ _ _ (by omega)]; exact ⟨rfl, rfl, rfl⟩)
theorem WT.row {I : Mm} {z N : Nat} (h : WT I z N) (k : Nat) (f : Nat → Int32) (hk : k ≠ z ∧ ∀ i, i < 8 → k ≠ z + 8 + (1 + i)) : WT (wrA I k f) z N :=
  h.eq (by rw [wrA_n _ _ (Ne.symm hk.1)]) (fun i hi => by rw [wrA_n _ _ (Ne.symm (hk.2 i hi))]; exact ⟨rfl, rfl, rfl⟩)
theorem WT.place {I : Mm} {z N : Nat} (h : WT I z N) (i p : Nat) (hp : p < 256) : WT (_root_.Jvm.Pilot.CSnowMazeLaw_law_r9786_1e919e.wr I (z + 8 + (1 + i)) 0 (nI p)) z N := by
  obtain ⟨a, b, c, d, e⟩ := h
  refine ⟨by rw [wr_n _ _ _ (by omega)]; exact a, b, fun j hj => ?_, fun j hj => ?_, fun j hj => ?_⟩
  · by_cases ej : j = i
    · subst ej; exact ⟨p, hp, wr_ss _ _ _ _⟩
    · rw [wr_n _ _ _ (by omega)]; exact c j hj
  · by_cases ej : j = i
    · subst ej; rw [wr_sn _ _ _ (by decide)]; exact d j hj
    · rw [wr_n _ _ _ (by omega)]; exact d j hj
  · by_cases ej : j = i
    · subst ej; rw [wr_sn _ _ _ (by decide)]; exact e j hj
    · rw [wr_n _ _ _ (by omega)]; exact e j hj
theorem WT.left {I : Mm} {z N : Nat} (h : WT I z N) (i p : Nat) (hp : p ≤ 24) : WT (_root_.Jvm.Pilot.CSnowMazeLaw_law_r9786_1e919e.wr I (z + 8 + (1 + i)) 7 (nI p)) z N := by
  obtain ⟨a, b, c, d, e⟩ := h
  refine ⟨by rw [wr_n _ _ _ (by omega)]; exact a, b, fun j hj => ?_, fun j hj => ?_, fun j hj => ?_⟩
  · by_cases ej : j = i
    · subst ej; rw [wr_sn _ _ _ (by decide)]; exact c j hj
    · rw [wr_n _ _ _ (by omega)]; exact c j hj
  · by_cases ej : j = i
    · subst ej; rw [wr_sn _ _ _ (by decide)]; exact d j hj
    · rw [wr_n _ _ _ (by omega)]; exact d j hj
  · by_cases ej : j = i
    · subst ej; exact ⟨p, hp, wr_ss _ _ _ _⟩
    · rw [wr_n _ _ _ (by omega)]; exact e j hj
theorem WT.sB {I : Mm} {z N : Nat} (h : WT I z N) (a b : Int32) (n : Nat) (hb : b = 0 ∨ b = 1) : WT (_root_.Jvm.Pilot.CSnowMazeLaw_law_r9786_1e919e.sB I z a b n) z N := by
  obtain ⟨a1, b1, c, d, e⟩ := h
  refine ⟨by rw [sB_i (by decide)]; exact a1, b1, fun j hj => by rw [sB_i (by decide)]; exact c j hj, fun j hj => ?_, fun j hj => by rw [sB_i (by decide)]; exact e j hj⟩
  simp only [_root_.Jvm.Pilot.CSnowMazeLaw_law_r9786_1e919e.sB]
  split
  · rw [upd_ap, if_pos rfl]; exact hb
  · exact d j hj
theorem WT.put {I : Mm} {z N : Nat} (h : WT I z N) (a b : Int32) : WT (m_X3_put I (z + 1) a b) z N := by
  refine h.eq ?_ (fun i _ => ?_)
  · rw [put_o (by omega)]
  · rw [put_o (by omega)]; exact ⟨rfl, rfl, rfl⟩
theorem sort_vp {I : Mm} {k : Nat} {a : Int32} (h : ¬ f_X3_sortAt I k a = nI 10) : ∃ p, p < 256 ∧ a = nI p := by
  simp only [f_X3_sortAt] at h
  by_cases h1 : a < 0
  · rw [if_pos h1] at h; exact absurd rfl h
  · by_cases h2 : nI 256 ≤ a
    · rw [if_neg h1, if_pos h2] at h; exact absurd rfl h
    · obtain ⟨j, hj, e⟩ := nI_of h1
      subst e
      exact ⟨j, Nat.lt_of_not_le fun y => h2 (nI_le y hj), rfl⟩
theorem WT.step {I : Mm} {z N i : Nat} (h : WT I z N) (d : Int32) : WT (stepM I z (z + 8 + (1 + i)) N d) z N := by
  unfold stepM
  by_cases h0 : f_X3_sortAt I (z + 1) (f_X5_beside (I (z + 8 + (1 + i)) 0) d) = nI 10
  · rw [if_pos h0]; exact h
  · obtain ⟨p, hp, e⟩ := sort_vp h0
    rw [if_neg h0]
    repeat' split
    · rw [e]; exact h.place i p hp
    · simp only [dug]
      rw [e]
      exact (((h.put _ _).wr _ 5 _ (by omega)).sB _ _ _ (Or.inl rfl)).place i p hp
    · exact h.put _ _
    · exact h
theorem WT.drop {I : Mm} {z N i : Nat} (h : WT I z N) (hi : i < N) : WT (dropS I (z + 8 + (1 + i))) z N := by
  obtain ⟨w, hw, e⟩ := h.2.2.2.2 i hi
  have hN := h.2.1
  simp only [dropS, m_X4_dropFirstOrder]
  rw [e, nI_clamp (by omega)]
  split
  · exact (h.row _ _ ⟨by omega, fun j hj => by omega⟩).left i _ (by omega)
  · exact h
theorem WT.shore {I : Mm} {z N w : Nat} (h : WT I z N) : WT (m_X0_shore I z w) z N := by
  simp only [m_X0_shore, m_X3_setPost]
  repeat' split
  · exact h
  · exact h.wr _ _ _ (by omega)
  · exact (h.wr _ _ _ (by omega)).row _ _ ⟨by omega, fun j hj => by omega⟩
  · exact h
theorem WT.hand {I : Mm} {z N g1 g2 : Nat} (h : WT I z N) : WT (m_X0_handLamp I z g1 g2) z N := by
  simp only [m_X0_handLamp]
  exact ((h.wr _ _ _ (by omega)).wr _ _ _ (by omega)).wr _ _ _ (by omega)
theorem WT.trade {I : Mm} {z N w : Nat} (h : WT I z N) : WT (tradeM I z w N) z N := by
  unfold tradeM
  split
  · exact h
  · repeat' split
    · exact h
    · exact h.hand
    · exact h.hand
theorem WT.act {I : Mm} {z N i : Nat} (h : WT I z N) (hi : i < N) : WT (actM I z (z + 8 + (1 + i)) N) z N := by
  have hR : WT (restM I z (z + 8 + (1 + i)) N) z N := by
    unfold restM
    repeat' split
    · exact h.shore.drop hi
    · exact h.trade
    · exact h.trade.drop hi
    · exact h.drop hi
  unfold actM
  repeat' split
  · exact hR
  · exact hR
  · exact h.step _
  · exact (h.step _).drop hi
theorem WT.burn {I : Mm} {z N w : Nat} (h : WT I z N) (hz : z ≠ w) : WT (m_X4_burnOil I w) z N := by
  simp only [m_X4_burnOil]
  repeat' split
  all_goals first | exact h | exact h.wr _ _ _ ⟨by decide, by decide, by decide, fun _ => Ne.symm hz⟩ | exact (h.wr _ _ _ ⟨by decide, by decide, by decide, fun _ => Ne.symm hz⟩).wr _ _ _ ⟨by decide, by decide, by decide, fun _ => Ne.symm hz⟩ | exact ((h.wr _ _ _ ⟨by decide, by decide, by decide, fun _ => Ne.symm hz⟩).wr _ _ _ ⟨by decide, by decide, by decide, fun _ => Ne.symm hz⟩).wr _ _ _ ⟨by decide, by decide, by decide, fun _ => Ne.symm hz⟩
theorem EX.burn {z w : Nat} {u v : Mm} (h : EX z u v) (hz : kC.getD z 0 = 2) (hw : kC.getD w 0 = 6) : EX z (m_X4_burnOil u w) (m_X4_burnOil v w) := by
  have hn := w_ne hz hw
  have hr := h.1 w hn.1 hn.2.1 hn.2.2
  have hd : ∀ (J : Mm) (j : Nat) (x : Int32), _root_.Jvm.Pilot.CSnowMazeLaw_law_r9786_1e919e.wr J w j x w = upd (J w) j x := fun J j x => wrA_s _ _ _
  simp only [m_X4_burnOil, hr, hd]
  repeat' split
  all_goals first | exact h | exact h.wr _ _ _ hn | exact (h.wr _ _ _ hn).wr _ _ _ hn | exact ((h.wr _ _ _ hn).wr _ _ _ hn).wr _ _ _ hn
def burnA (I : Mm) (z : Nat) : Nat → Mm
  | 0 => I
  | i + 1 => if burnA I z i (z + 8 + (1 + i)) 4 = 0 then m_X4_burnOil (burnA I z i) (z + 8 + (1 + i)) else burnA I z i
noncomputable def actA (I : Mm) (z N : Nat) : Nat → Mm
  | 0 => I
  | i + 1 => if actA I z N i (z + 8 + (1 + i)) 4 = 0 then actM (actA I z N i) z (z + 8 + (1 + i)) N else actA I z N i
noncomputable def tickM (I : Mm) (z N : Nat) : Mm := wr (lowM (actA (burnA I z N) z N N) z N) z 4 (lowM (actA (burnA I z N) z N N) z N z 4 + nI 1)
theorem WT.burnA {I : Mm} {z N : Nat} (h : WT I z N) : ∀ i, i ≤ N → WT (_root_.Jvm.Pilot.CSnowMazeLaw_law_r9786_1e919e.burnA I z i) z N
  | 0, _ => h
  | i + 1, hi => by
    have ih := WT.burnA h i (by omega)
    simp only [_root_.Jvm.Pilot.CSnowMazeLaw_law_r9786_1e919e.burnA]
    split
    · exact ih.burn (by omega)
    · exact ih
theorem WT.actA {I : Mm} {z N : Nat} (h : WT I z N) : ∀ i, i ≤ N → WT (_root_.Jvm.Pilot.CSnowMazeLaw_law_r9786_1e919e.actA I z N i) z N
  | 0, _ => h
  | i + 1, hi => by
    have ih := WT.actA h i (by omega)
    simp only [_root_.Jvm.Pilot.CSnowMazeLaw_law_r9786_1e919e.actA]
    split
    · exact ih.act (by omega)
    · exact ih
theorem WT.roof {J : Mm} {z N c : Nat} (h : WT J z N) : WT (_root_.Jvm.Pilot.CSnowMazeLaw_law_r9786_1e919e.roof J z N c) z N := by
  simp only [_root_.Jvm.Pilot.CSnowMazeLaw_law_r9786_1e919e.roof]
  exact ((h.put _ _).sB _ _ _ (Or.inr rfl)).wr _ _ _ (by omega)
theorem WT.fall {G : Mm} {held : Nat → Prop} {z N : Nat} (h : WT G z N) : ∀ c, WT (fallM G held z N c) z N
  | 0 => h
  | c + 1 => by
    have ih := WT.fall (held := held) h c
    simp only [fallM]
    repeat' split
    · exact ih
    · exact ih
    · exact ih.roof
theorem WT.low {I : Mm} {z N : Nat} (h : WT I z N) : WT (lowM I z N) z N := WT.fall (h.row _ _ ⟨by omega, fun j hj => by omega⟩) 256
theorem WT.tick {I : Mm} {z N : Nat} (h : WT I z N) : WT (tickM I z N) z N := ((h.burnA N (Nat.le_refl _)).actA N (Nat.le_refl _)).low.wrz _ _ (by decide)
theorem EX.burnA {z : Nat} {u v : Mm} (h : EX z u v) (hz : kC.getD z 0 = 2) : ∀ i, i ≤ 8 → EX z (_root_.Jvm.Pilot.CSnowMazeLaw_law_r9786_1e919e.burnA u z i) (_root_.Jvm.Pilot.CSnowMazeLaw_law_r9786_1e919e.burnA v z i)
  | 0, _ => h
  | i + 1, hi => by
    have ih := EX.burnA h hz i (by omega)
    simp only [_root_.Jvm.Pilot.CSnowMazeLaw_law_r9786_1e919e.burnA, vT ih.1]
    split
    · exact ih.burn hz (kd_crew (kd_2_2 hz) (by omega))
    · exact ih
theorem EX.actA {z N : Nat} {u v : Mm} (h : EX z u v) (hz : kC.getD z 0 = 2) (hN : N ≤ 8) : ∀ i, i ≤ 8 → EX z (_root_.Jvm.Pilot.CSnowMazeLaw_law_r9786_1e919e.actA u z N i) (_root_.Jvm.Pilot.CSnowMazeLaw_law_r9786_1e919e.actA v z N i)
  | 0, _ => h
  | i + 1, hi => by
    have ih := EX.actA h hz hN i (by omega)
    simp only [_root_.Jvm.Pilot.CSnowMazeLaw_law_r9786_1e919e.actA, vT ih.1]
    split
    · exact ih.act hz (kd_crew (kd_2_2 hz) (by omega)) hN
    · exact ih
theorem EX.tick {z N : Nat} {u v : Mm} (h : EX z u v) (hz : kC.getD z 0 = 2) (hN : N ≤ 8) : EX z (tickM u z N) (tickM v z N) := by
  have e := ((h.burnA hz N hN).actA hz hN N hN).low hN
  simp only [tickM]
  rw [e.1.z]
  exact e.wr _ _ _ (by omega)

set_option maxHeartbeats 4000000 in
set_option maxRecDepth 100000 in
theorem c_X0_tick (l : Launch) (D : va_G) (cs : Nat → ClassId) (ad : Nat → Nat) (I : Mm) (sz : Nat) (z : Nat) (hz : kC.getD z 0 = 2) (N : Nat) (hw : WT I z N) (hR : RX z I) : MetN l yX0_tick wsX0_tick ({ frames := 5, cells := 0, slots := 0, locals := 117 }) kC cs D ad I sz [.ref (ad z)] (fun u => EX z u (tickM I z N)) 0 0 := by
  refine g_met (cc := cX0_tick) (maxL := 2) (ret := none) (by decide) rfl (Nat.le_of_ble_eq_true rfl) ?_
  intro pg e s m args below meth c ls hx hb hr hml hts hown hlocks hsz hP hD hK hN hS hA hl
  have hown : s.vm.findClass RX0 = some m.cls := hown
  have hl : lv_has ls 2 [(0, .ref (ad z))] := hl
  have hN8 := hw.2.1
  refine lv_iconst (v := nI 0) hx hb dX0_tick_0 (by decide) ?_
  refine lv_istore_n (lv' := [(1, .int (nI 0)), (0, .ref (ad z))]) hx hb dX0_tick_1 rfl hl (by decide) rfl (fun ls hl => ?_)
  suffices KL2 : ∀ (fuel : Nat) (i : Nat) (b : Mm) (H : Heap) (locs : List Loc) (ls : Array Slot), (i ≤ N) → (b = burnA I z i) → N - i < fuel → va_P D vwCl (gw kC cs ad b) H → va_D (gA kC ad sz) (gw kC cs ad b) → va_S (gA kC ad sz) s.heap H locs → lv_has ls 2 [(1, .int (nI i)), (0, .ref (ad z))] → W pg l e ({ frames := 5, cells := 0, slots := 0, locals := 117 }) s m args below meth c H locs 0 0 (MQ below (va_Qv (fun u => EX z u (tickM I z N)) (wat kC cs D ad (gA kC ad sz)) (gA kC ad sz)) args s 0 0 (gA kC ad sz)) (F0 m 2 ls []) from KL2 _ 0 I _ _ _ (by omega) rfl (Nat.lt_succ_self _) hP hD hS (lv_sub hl [0, 1] rfl)
  intro fuel2
  induction fuel2 with
  | zero => intro _ _ _ _ _ _ _ hm; exact absurd hm (Nat.not_lt_zero _)
  | succ fuel2 ih2 =>
    intro i b H locs ls hi hb_ hm2 hP hD hS hl
    refine lv_iload_n hx hb dX0_tick_2 rfl (lv_at hl 0 rfl) ?_
    refine lv_aload_n hx hb dX0_tick_3 rfl (lv_at hl 1 rfl) ?_
    refine g_get (κ := 2) (ci := 0) (v := .int (b z 3)) (C := RX0) (T := TX0) (N := 7) hx hb hts hown hK hP (k := z) hz (by decide) rfl (fun _ h => List.mem_cons_of_mem _ (List.mem_append_left _ (List.mem_append_left _ (List.mem_append_left _ (List.mem_append_right _ h))))) rfl 3 (by decide) (hts _ (List.mem_of_getElem? (i := 1) rfl)) (fun _ h9 => h9) rfl dX0_tick_4 ?_
    rw [show b z 3 = nI N from (by rw [hb_]; exact (hw.burnA i hi).1)]
    refine lv_icmp_ge (tgt := 43) hx hb dX0_tick_7 (by decide) (fun c_1 => ?_) (fun c_1 => ?_)
    · skip
      have nc_1 : N ≤ i := (nI_leI (a := N) (b := i) (by omega) (by omega)).mp c_1
      refine lv_iconst (v := nI 0) hx hb dX0_tick_43 (by decide) ?_
      refine lv_istore_n (lv' := [(1, .int (nI 0)), (0, .ref (ad z))]) hx hb dX0_tick_44 rfl hl (by decide) rfl (fun ls hl => ?_)
      suffices KL45 : ∀ (fuel : Nat) (i2 : Nat) (v : Mm) (H : Heap) (locs : List Loc) (ls : Array Slot), (i2 ≤ N) → (EX z v (actA (burnA I z N) z N i2)) → (WT (actA (burnA I z N) z N i2) z N) → N - i2 < fuel → va_P D vwCl (gw kC cs ad v) H → va_D (gA kC ad sz) (gw kC cs ad v) → va_S (gA kC ad sz) s.heap H locs → lv_has ls 2 [(1, .int (nI i2)), (0, .ref (ad z))] → W pg l e ({ frames := 5, cells := 0, slots := 0, locals := 117 }) s m args below meth c H locs 0 0 (MQ below (va_Qv (fun u => EX z u (tickM I z N)) (wat kC cs D ad (gA kC ad sz)) (gA kC ad sz)) args s 0 0 (gA kC ad sz)) (F0 m 45 ls []) from KL45 _ 0 b _ _ _ (by omega) (by rw [hb_, show i = N from by omega]; exact ⟨EqX.rf _ _, (EX.burnA ⟨EqX.rf z I, hR⟩ hz N hN8).2⟩) (hw.burnA N (Nat.le_refl _)) (Nat.lt_succ_self _) hP hD hS (lv_sub hl [0, 1] rfl)
      intro fuel45
      induction fuel45 with
      | zero => intro _ _ _ _ _ _ _ _ hm; exact absurd hm (Nat.not_lt_zero _)
      | succ fuel45 ih45 =>
        intro i2 v H locs ls hi2 hv hwA hm45 hP hD hS hl
        refine lv_iload_n hx hb dX0_tick_45 rfl (lv_at hl 0 rfl) ?_
        refine lv_aload_n hx hb dX0_tick_46 rfl (lv_at hl 1 rfl) ?_
        refine g_get (κ := 2) (ci := 0) (v := .int (v z 3)) (C := RX0) (T := TX0) (N := 7) hx hb hts hown hK hP (k := z) hz (by decide) rfl (fun _ h => List.mem_cons_of_mem _ (List.mem_append_left _ (List.mem_append_left _ (List.mem_append_left _ (List.mem_append_right _ h))))) rfl 3 (by decide) (hts _ (List.mem_of_getElem? (i := 1) rfl)) (fun _ h9 => h9) rfl dX0_tick_47 ?_
        rw [show v z 3 = nI N from (by rw [hv.1.z]; exact hwA.1)]
        refine lv_icmp_ge (tgt := 87) hx hb dX0_tick_50 (by decide) (fun c_2 => ?_) (fun c_2 => ?_)
        · skip
          have nc_2 : N ≤ i2 := (nI_leI (a := N) (b := i2) (by omega) (by omega)).mp c_2
          refine lv_aload_n hx hb dX0_tick_87 rfl (lv_at hl 1 rfl) ?_
          refine g_callv hD hS hA (va_runV (As := []) (rest := []) ⟨hx, hb, hml, hown, hts⟩ (c_X0_lowerRoofs l D cs ad v H.size z hz N (by rw [hv.1.z]; exact hwA.1) hN8 hv.2) (cwV 0 hts gX0_tick_X0_lowerRoofs rfl rfl rfl (by decide +kernel) ⟨Nat.le_of_ble_eq_true rfl, Nat.le_of_ble_eq_true rfl⟩) (g_preV hP hD hK hN (k := z) hz (by decide) rfl rfl rfl rfl) rfl rfl hl.1 rfl (lv_room (Nat.le_of_ble_eq_true rfl)) dX0_tick_88 ⟨Nat.le_of_ble_eq_true rfl, Nat.le_of_ble_eq_true rfl⟩) (fun u3 H locs hu3 hP hD hS => ?_)
          refine lv_aload_n hx hb dX0_tick_91 rfl (lv_at hl 1 rfl) ?_
          refine lv_dup hx hb dX0_tick_92 rfl ?_
          refine g_get (κ := 2) (ci := 0) (v := .int (u3 z 4)) (C := RX0) (T := TX0) (N := 7) hx hb hts hown hK hP (k := z) hz (by decide) rfl (fun _ h => List.mem_cons_of_mem _ (List.mem_append_left _ (List.mem_append_left _ (List.mem_append_left _ (List.mem_append_right _ h))))) rfl 4 (by decide) (hts _ (List.mem_of_getElem? (i := 3) rfl)) (fun _ h9 => h9) rfl dX0_tick_93 ?_
          refine lv_iconst (v := nI 1) hx hb dX0_tick_96 (by decide) ?_
          refine lv_iadd hx hb dX0_tick_97 ?_
          refine g_put (κ := 2) (ci := 0) (v := (u3 z 4) + (nI 1)) (ty := .int) (C := RX0) (T := TX0) (N := 7) hx hb hts hown hK hP hD hS (k := z) hz (by decide) rfl (fun _ h => List.mem_cons_of_mem _ (List.mem_append_left _ (List.mem_append_left _ (List.mem_append_left _ (List.mem_append_right _ h))))) tyX0 tyX0_ok nmX0 rfl 4 (by decide) (hts _ (List.mem_of_getElem? (i := 3) rfl)) (fun _ h9 => h9) rfl (by decide +kernel) rfl rfl (Nat.le_of_ble_eq_true rfl) rfl dX0_tick_98 (fun u4 H locs hu4 hP hD hS => ?_)
          exact g_vret hx hb hr hlocks hP hD hS (by have e9 := EX.low hv hN8; rw [show i2 = N from by omega] at e9; have e8 : EX z u3 (lowM (actA (burnA I z N) z N N) z N) := ⟨hu3.1.tr e9.1, hu3.2⟩; rw [hu4]; simp only [tickM]; rw [e8.1.z]; exact e8.wr _ _ _ (by omega)) dX0_tick_101
        · skip
          have nc_2 : ¬ N ≤ i2 := fun z9_ => c_2 ((nI_leI (a := N) (b := i2) (by omega) (by omega)).mpr z9_)
          obtain ⟨p, hp8, hp⟩ := hwA.2.2.1 i2 (by omega)
          obtain ⟨ow, how24, how⟩ := hwA.2.2.2.2 i2 (by omega)
          refine lv_iload_n hx hb dX0_tick_53 rfl (lv_at hl 0 rfl) ?_
          refine lv_bipush (v := nI 8) hx hb dX0_tick_54 (by decide) ?_
          refine lv_icmp_ge (tgt := 87) hx hb dX0_tick_56 (by decide) (fun c_5 => ?_) (fun c_5 => ?_)
          · skip
            have nc_5 : 8 ≤ i2 := (nI_leI (a := 8) (b := i2) (by omega) (by omega)).mp c_5
            exact absurd nc_5 (by omega)
          · skip
            have nc_5 : ¬ 8 ≤ i2 := fun z9_ => c_5 ((nI_leI (a := 8) (b := i2) (by omega) (by omega)).mpr z9_)
            refine lv_aload_n hx hb dX0_tick_59 rfl (lv_at hl 1 rfl) ?_
            refine g_get (κ := 2) (ci := 0) (v := .ref (ad (z + 8))) (C := RX0) (T := TX0) (N := 7) hx hb hts hown hK hP (k := z) hz (by decide) rfl (fun _ h => List.mem_cons_of_mem _ (List.mem_append_left _ (List.mem_append_left _ (List.mem_append_left _ (List.mem_append_right _ h))))) rfl 2 (by decide) (hts _ (List.mem_of_getElem? (i := 2) rfl)) (fun _ h9 => h9) rfl dX0_tick_60 ?_
            refine lv_iload_n hx hb dX0_tick_63 rfl (lv_at hl 0 rfl) ?_
            refine g_crew (i := i2) hx hb hK hP (k := (z + 8)) (kd_2_2 hz) (by omega) dX0_tick_64 ?_
            refine g_getN (κ := 6) (ci := 4) (v := .int (v (z + 8 + (1 + i2)) 4)) (C := RX4) (T := TX4) (N := 8) hx hb hts hown hK hP (k := (z + 8 + (1 + i2))) (kd_crew (kd_2_2 hz) (show i2 < 8 from by omega)) (by decide) rfl (fun _ h => List.mem_cons_of_mem _ (List.mem_append_left _ (List.mem_append_left _ (List.mem_append_right _ h)))) rfl 4 (by decide) (nwu10 hN) (fun _ h9 => h9) rfl dX0_tick_65 ?_
            refine lv_if_ne (tgt := 81) hx hb dX0_tick_68 (by decide) (fun c_6 => ?_) (fun c_6 => ?_)
            · skip
              refine lv_iinc (v := nI (i2 + 1)) (lv' := [(1, .int (nI (i2 + 1))), (0, .ref (ad z))]) hx hb dX0_tick_81 hl (k := 0) rfl (nI_1 i2) (by decide) rfl (fun ls hl => ?_)
              refine lv_goto (tgt := 45) hx hb dX0_tick_84 (by decide) ?_
              have hwA : WT (actA (burnA I z N) z N (i2 + 1)) z N := by simp only [actA]; rw [if_neg (by rw [← vT hv.1]; exact c_6)]; exact hwA
              exact ih45 (i2 + 1) v _ _ _ (by omega) (by simp only [actA]; rw [if_neg (by rw [← vT hv.1]; exact c_6)]; exact hv) hwA (by omega) hP hD hS (lv_sub hl [0, 1] rfl)
            · skip
              refine lv_aload_n hx hb dX0_tick_71 rfl (lv_at hl 1 rfl) ?_
              refine lv_aload_n hx hb dX0_tick_72 rfl (lv_at hl 1 rfl) ?_
              refine g_get (κ := 2) (ci := 0) (v := .ref (ad (z + 8))) (C := RX0) (T := TX0) (N := 7) hx hb hts hown hK hP (k := z) hz (by decide) rfl (fun _ h => List.mem_cons_of_mem _ (List.mem_append_left _ (List.mem_append_left _ (List.mem_append_left _ (List.mem_append_right _ h))))) rfl 2 (by decide) (hts _ (List.mem_of_getElem? (i := 2) rfl)) (fun _ h9 => h9) rfl dX0_tick_73 ?_
              refine lv_iload_n hx hb dX0_tick_76 rfl (lv_at hl 0 rfl) ?_
              refine g_crew (i := i2) hx hb hK hP (k := (z + 8)) (kd_2_2 hz) (by omega) dX0_tick_77 ?_
              refine g_callv hD hS hA (va_runV (As := [.ref (ad (z + 8 + (1 + i2)))]) (rest := []) ⟨hx, hb, hml, hown, hts⟩ (c_X0_act l D cs ad v H.size z hz (z + 8 + (1 + i2)) (kd_crew (kd_2_2 hz) (show i2 < 8 from by omega)) N ((hwA.eqx hv.1).wz hv.2) p hp8 (by rw [vT hv.1]; exact hp) ow (by rw [vT hv.1]; exact how) how24) (cwV 1 hts gX0_tick_X0_act rfl rfl rfl (by decide +kernel) ⟨Nat.le_of_ble_eq_true rfl, Nat.le_of_ble_eq_true rfl⟩) (g_preV hP hD hK hN (k := z) hz (by decide) rfl rfl rfl rfl) rfl rfl hl.1 rfl (lv_room (Nat.le_of_ble_eq_true rfl)) dX0_tick_78 ⟨Nat.le_of_ble_eq_true rfl, Nat.le_of_ble_eq_true rfl⟩) (fun u7 H locs hu7 hP hD hS => ?_)
              refine lv_iinc (v := nI (i2 + 1)) (lv' := [(1, .int (nI (i2 + 1))), (0, .ref (ad z))]) hx hb dX0_tick_81 hl (k := 0) rfl (nI_1 i2) (by decide) rfl (fun ls hl => ?_)
              refine lv_goto (tgt := 45) hx hb dX0_tick_84 (by decide) ?_
              have e9 := EX.act hv hz (kd_crew (kd_2_2 hz) (show i2 < 8 from by omega)) hN8
              have hex2 : EX z u7 (actA (burnA I z N) z N (i2 + 1)) := by simp only [actA]; rw [if_pos (by rw [← vT hv.1]; exact c_6)]; exact ⟨hu7.1.tr e9.1, hu7.2⟩
              have hwA2 : WT (actA (burnA I z N) z N (i2 + 1)) z N := by simp only [actA]; rw [if_pos (by rw [← vT hv.1]; exact c_6)]; exact hwA.act (by omega)
              exact ih45 (i2 + 1) u7 _ _ _ (by omega) hex2 hwA2 (by omega) hP hD hS (lv_sub hl [0, 1] rfl)
    · skip
      have nc_1 : ¬ N ≤ i := fun z9_ => c_1 ((nI_leI (a := N) (b := i) (by omega) (by omega)).mpr z9_)
      refine lv_iload_n hx hb dX0_tick_10 rfl (lv_at hl 0 rfl) ?_
      refine lv_bipush (v := nI 8) hx hb dX0_tick_11 (by decide) ?_
      refine lv_icmp_ge (tgt := 43) hx hb dX0_tick_13 (by decide) (fun c_8 => ?_) (fun c_8 => ?_)
      · skip
        have nc_8 : 8 ≤ i := (nI_leI (a := 8) (b := i) (by omega) (by omega)).mp c_8
        exact absurd nc_8 (by omega)
      · skip
        have nc_8 : ¬ 8 ≤ i := fun z9_ => c_8 ((nI_leI (a := 8) (b := i) (by omega) (by omega)).mpr z9_)
        refine lv_aload_n hx hb dX0_tick_16 rfl (lv_at hl 1 rfl) ?_
        refine g_get (κ := 2) (ci := 0) (v := .ref (ad (z + 8))) (C := RX0) (T := TX0) (N := 7) hx hb hts hown hK hP (k := z) hz (by decide) rfl (fun _ h => List.mem_cons_of_mem _ (List.mem_append_left _ (List.mem_append_left _ (List.mem_append_left _ (List.mem_append_right _ h))))) rfl 2 (by decide) (hts _ (List.mem_of_getElem? (i := 2) rfl)) (fun _ h9 => h9) rfl dX0_tick_17 ?_
        refine lv_iload_n hx hb dX0_tick_20 rfl (lv_at hl 0 rfl) ?_
        refine g_crew (i := i) hx hb hK hP (k := (z + 8)) (kd_2_2 hz) (by omega) dX0_tick_21 ?_
        refine g_getN (κ := 6) (ci := 4) (v := .int (b (z + 8 + (1 + i)) 4)) (C := RX4) (T := TX4) (N := 8) hx hb hts hown hK hP (k := (z + 8 + (1 + i))) (kd_crew (kd_2_2 hz) (show i < 8 from by omega)) (by decide) rfl (fun _ h => List.mem_cons_of_mem _ (List.mem_append_left _ (List.mem_append_left _ (List.mem_append_right _ h)))) rfl 4 (by decide) (nwu10 hN) (fun _ h9 => h9) rfl dX0_tick_22 ?_
        refine lv_if_ne (tgt := 37) hx hb dX0_tick_25 (by decide) (fun c_9 => ?_) (fun c_9 => ?_)
        · skip
          refine lv_iinc (v := nI (i + 1)) (lv' := [(1, .int (nI (i + 1))), (0, .ref (ad z))]) hx hb dX0_tick_37 hl (k := 0) rfl (nI_1 i) (by decide) rfl (fun ls hl => ?_)
          refine lv_goto (tgt := 2) hx hb dX0_tick_40 (by decide) ?_
          exact ih2 (i + 1) b _ _ _ (by omega) (by simp only [burnA]; rw [if_neg (by rw [← hb_]; exact c_9)]; exact hb_) (by omega) hP hD hS (lv_sub hl [0, 1] rfl)
        · skip
          refine lv_aload_n hx hb dX0_tick_28 rfl (lv_at hl 1 rfl) ?_
          refine g_get (κ := 2) (ci := 0) (v := .ref (ad (z + 8))) (C := RX0) (T := TX0) (N := 7) hx hb hts hown hK hP (k := z) hz (by decide) rfl (fun _ h => List.mem_cons_of_mem _ (List.mem_append_left _ (List.mem_append_left _ (List.mem_append_left _ (List.mem_append_right _ h))))) rfl 2 (by decide) (hts _ (List.mem_of_getElem? (i := 2) rfl)) (fun _ h9 => h9) rfl dX0_tick_29 ?_
          refine lv_iload_n hx hb dX0_tick_32 rfl (lv_at hl 0 rfl) ?_
          refine g_crew (i := i) hx hb hK hP (k := (z + 8)) (kd_2_2 hz) (by omega) dX0_tick_33 ?_
          refine g_callM (M := m_X4_burnOil b (z + 8 + (1 + i))) hD hS hA (va_runV (As := []) (rest := []) ⟨hx, hb, hml, hown, hts⟩ (c_X4_burnOil l D cs ad b H.size (z + 8 + (1 + i)) (kd_crew (kd_2_2 hz) (show i < 8 from by omega))) (cwV 0 hts gX0_tick_X4_burnOil rfl rfl rfl (by decide +kernel) ⟨Nat.le_of_ble_eq_true rfl, Nat.le_of_ble_eq_true rfl⟩) (g_preV hP hD hK hN (k := (z + 8 + (1 + i))) (kd_crew (kd_2_2 hz) (show i < 8 from by omega)) (by decide) rfl rfl rfl rfl) rfl rfl hl.1 rfl (lv_room (Nat.le_of_ble_eq_true rfl)) dX0_tick_34 ⟨Nat.le_of_ble_eq_true rfl, Nat.le_of_ble_eq_true rfl⟩) (fun u10 H locs hu10 hP hD hS => ?_)
          refine lv_iinc (v := nI (i + 1)) (lv' := [(1, .int (nI (i + 1))), (0, .ref (ad z))]) hx hb dX0_tick_37 hl (k := 0) rfl (nI_1 i) (by decide) rfl (fun ls hl => ?_)
          refine lv_goto (tgt := 2) hx hb dX0_tick_40 (by decide) ?_
          exact ih2 (i + 1) u10 _ _ _ (by omega) (by simp only [burnA]; rw [if_pos (by rw [← hb_]; exact c_9), ← hb_]; exact hu10) (by omega) hP hD hS (lv_sub hl [0, 1] rfl)
