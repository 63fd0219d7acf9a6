noncomputable def tkI (I : Mm) (z N : Nat) : Nat → Mm
  | 0 => I
  | n + 1 => tickM (tkI I z N n) z N
theorem WT.tkI {I : Mm} {z N : Nat} (h : WT I z N) : ∀ n, WT (_root_.Jvm.Pilot.CSnowMazeLaw_law_r9786_1e919e.tkI I z N n) z N
  | 0 => h
  | n + 1 => (WT.tkI h n).tick
theorem tkI_step {v I u : Mm} {z N i : Nat} (hz : kC.getD z 0 = 2) (hN : N ≤ 8) (hv : EX z v (tkI I z N i)) (hu : EX z u (tickM v z N)) : EX z u (tkI I z N (i + 1)) := by
  have e := EX.tick hv hz hN
  exact ⟨hu.1.tr e.1, hu.2⟩
noncomputable def passR (I : Mm) (z N t : Nat) : Int32 := f_X0_openedByCrew (tkI I z N t) z N - f_X0_openedByCrew I z N
/-- ahead is like now -/
def ahd (I : Mm) (k : Nat) : Mm := m_X0_becomeLike I (k + 26) (k + 1)
theorem bl4_oo {I : Mm} {k k2 x : Nat} (h : x ≠ k ∧ x ≠ k + 8) : m_X4_becomeLike I k k2 x = I x := bl4_o h
theorem ahd_o {I : Mm} {k x : Nat} (h : x < k + 26 ∨ (k + 26 + 4 < x ∧ x < k + 26 + 9) ∨ k + 26 + 25 ≤ x) : ahd I k x = I x := by
  have hx : x ≠ k + 26 := by omega
  simp only [ahd, m_X0_becomeLike, bl4, bl3, bl2, bl1]
  rw [wr_n _ _ _ hx, wr_n _ _ _ hx, wr_n _ _ _ hx, wr_n _ _ _ hx]
  exact bL_o (by omega) 8 (Nat.le_refl _)

theorem cpy_ap (f g : Nat → Int32) (n j : Nat) : cpy f g n j = if j < n then f j else g j := rfl
theorem bl4_s {I : Mm} {k k2 : Nat} (hne : k2 ≠ k) (hn8 : k2 ≠ k + 8) (j : Nat) (hj : j < 6 ∨ j = 7) : m_X4_becomeLike I k k2 k j = I k2 j := by
  simp only [m_X4_becomeLike]
  simp only [wr, wrA]
  have h1 : ¬ k = k + 8 := by omega
  rcases hj with hj | rfl
  · rcases (show j = 0 ∨ j = 1 ∨ j = 2 ∨ j = 3 ∨ j = 4 ∨ j = 5 from by omega) with rfl | rfl | rfl | rfl | rfl | rfl <;> simp [h1, hne, hn8, upd_ap]
  · simp [h1, hne, hn8, upd_ap]
theorem bl4_8 {I : Mm} {k k2 : Nat} (h8 : k2 + 8 ≠ k) (j : Nat) (hj : j < 24) : m_X4_becomeLike I k k2 (k + 8) j = I (k2 + 8) j := by
  simp only [m_X4_becomeLike]
  simp only [wr, wrA]
  have h1 : ¬ k + 8 = k := by omega
  simp [h1, h8, hj, upd_ap, cpy_ap]
theorem bL_t {I : Mm} {z z2 : Nat} (hz : z = z2 + 25) {i : Nat} : ∀ n, i < n → n ≤ 8 → (∀ j, (j < 6 ∨ j = 7) → bL I z z2 n (z + 8 + (1 + i)) j = I (z2 + 8 + (1 + i)) j) ∧ ∀ j, j < 24 → bL I z z2 n (z + 8 + (1 + i) + 8) j = I (z2 + 8 + (1 + i) + 8) j
  | 0, h, _ => absurd h (Nat.not_lt_zero _)
  | n + 1, h, hn => by
    simp only [bL]
    by_cases e : i = n
    · subst e
      refine ⟨fun j hj => ?_, fun j hj => ?_⟩
      · rw [bl4_s (by omega) (by omega) j hj, bL_o (by omega) i (by omega)]
      · rw [bl4_8 (by omega) j hj, bL_o (by omega) i (by omega)]
    · have ih := bL_t (I := I) hz (i := i) n (by omega) (by omega)
      refine ⟨fun j hj => ?_, fun j hj => ?_⟩
      · rw [bl4_o (by omega)]; exact ih.1 j hj
      · rw [bl4_o (by omega)]; exact ih.2 j hj
theorem bL_s {I : Mm} {z z2 : Nat} (hz : z = z2 + 25) : ∀ n, n ≤ 8 → ∀ a, a < 3 → ∀ j, j < 256 → bL I z z2 n (z + 2 + a) j = I (z2 + 2 + a) j
  | 0, _, a, ha, j, hj => by
    simp only [bL, m_X3_becomeLike]
    simp only [wrA]
    rcases (show a = 0 ∨ a = 1 ∨ a = 2 from by omega) with rfl | rfl | rfl
    · simp [hj, cpy_ap, show ¬ z2 + 1 = z from by omega, show ¬ z2 + 2 = z from by omega, show ¬ z2 = z from by omega, show ¬ z + 2 = z + 1 + 3 from by omega, show ¬ z + 2 = z + 1 + 2 from by omega, show z + 2 = z + 1 + 1 from by omega, show z2 + 2 = z2 + 1 + 1 from by omega]
    · simp [hj, cpy_ap, show ¬ z2 + 1 = z from by omega, show ¬ z2 + 2 = z from by omega, show ¬ z2 = z from by omega, show ¬ z + 2 + 1 = z + 1 + 3 from by omega, show z + 2 + 1 = z + 1 + 2 from by omega, show z2 + 2 + 1 = z2 + 1 + 2 from by omega, show ¬ z2 + 1 + 2 = z + 1 + 1 from by omega]
    · simp [hj, cpy_ap, show ¬ z2 + 1 = z from by omega, show ¬ z2 + 2 = z from by omega, show ¬ z2 = z from by omega, show z + 2 + 2 = z + 1 + 3 from by omega, show z2 + 2 + 2 = z2 + 1 + 3 from by omega, show ¬ z2 + 1 + 3 = z + 1 + 1 from by omega, show ¬ z2 + 1 + 3 = z + 1 + 2 from by omega]
  | n + 1, hn, a, ha, j, hj => by
    simp only [bL]
    rw [bl4_o (by omega)]
    exact bL_s hz n (by omega) a ha j hj
theorem ahd_t {I : Mm} {k i : Nat} (hi : i < 8) : (∀ j, (j < 6 ∨ j = 7) → ahd I k (k + 26 + 8 + (1 + i)) j = I (k + 1 + 8 + (1 + i)) j) ∧ ∀ j, j < 24 → ahd I k (k + 26 + 8 + (1 + i) + 8) j = I (k + 1 + 8 + (1 + i) + 8) j := by
  have h := bL_t (I := I) (z := k + 26) (z2 := k + 1) (by omega) (i := i) 8 hi (Nat.le_refl _)
  refine ⟨fun j hj => ?_, fun j hj => ?_⟩
  · rw [← h.1 j hj]
    simp only [ahd, m_X0_becomeLike, bl4, bl3, bl2, bl1]
    rw [wr_n _ _ _ (by omega), wr_n _ _ _ (by omega), wr_n _ _ _ (by omega), wr_n _ _ _ (by omega)]
  · rw [← h.2 j hj]
    simp only [ahd, m_X0_becomeLike, bl4, bl3, bl2, bl1]
    rw [wr_n _ _ _ (by omega), wr_n _ _ _ (by omega), wr_n _ _ _ (by omega), wr_n _ _ _ (by omega)]
theorem ahd_s {I : Mm} {k a j : Nat} (ha : a < 3) (hj : j < 256) : ahd I k (k + 26 + 2 + a) j = I (k + 1 + 2 + a) j := by
  rw [← bL_s (I := I) (z := k + 26) (z2 := k + 1) (by omega) 8 (Nat.le_refl _) a ha j hj]
  simp only [ahd, m_X0_becomeLike, bl4, bl3, bl2, bl1]
  rw [wr_n _ _ _ (by omega), wr_n _ _ _ (by omega), wr_n _ _ _ (by omega), wr_n _ _ _ (by omega)]
theorem ahd_z {I : Mm} {k : Nat} : ahd I k (k + 26) 3 = I (k + 1) 3 ∧ ahd I k (k + 26) 4 = I (k + 1) 4 ∧ ahd I k (k + 26) 5 = I (k + 1) 5 ∧ ahd I k (k + 26) 6 = I (k + 1) 6 := by
  have h : ∀ B : Mm, ∀ (j : Nat) (x : Int32), wr B (k + 26) j x (k + 1) = B (k + 1) := fun B j x => wr_n _ _ _ (by omega)
  have hb : bL I (k + 26) (k + 1) 8 (k + 1) = I (k + 1) := bL_o (by omega) 8 (Nat.le_refl _)
  simp only [ahd, m_X0_becomeLike, bl4, bl3, bl2, bl1]
  refine ⟨?_, ?_, ?_, ?_⟩
  · rw [wr_sn _ _ _ (by decide), wr_sn _ _ _ (by decide), wr_sn _ _ _ (by decide), wr_ss, hb]
  · rw [wr_sn _ _ _ (by decide), wr_sn _ _ _ (by decide), wr_ss, h, hb]
  · rw [wr_sn _ _ _ (by decide), wr_ss, h, h, hb]
  · rw [wr_ss, h, h, h, hb]
theorem WT.ahd {I : Mm} {k N : Nat} (h : WT I (k + 1) N) : WT (_root_.Jvm.Pilot.CSnowMazeLaw_law_r9786_1e919e.ahd I k) (k + 26) N := by
  obtain ⟨a, b, c, d, e⟩ := h
  refine ⟨ahd_z.1.trans a, b, fun i hi => ?_, fun i hi => ?_, fun i hi => ?_⟩
  · rw [(ahd_t (show i < 8 from by omega)).1 0 (by decide)]; exact c i hi
  · rw [(ahd_t hi).1 4 (by decide)]; exact d i hi
  · rw [(ahd_t (show i < 8 from by omega)).1 7 (by decide)]; exact e i hi
theorem RX.ahd {I : Mm} {k : Nat} (h : RX (k + 26) I) : RX (k + 26) (_root_.Jvm.Pilot.CSnowMazeLaw_law_r9786_1e919e.ahd I k) :=
  h.eq (by rw [ahd_o (by omega)]) (ahd_o (by omega)) (ahd_o (by omega))
/-- a tick of a maze leaves the cells beyond it alone -/
def Lo (z : Nat) (u v : Mm) : Prop := ∀ a, (a < z ∨ z + 25 ≤ a) → u a = v a
theorem Lo.rf (z : Nat) (u : Mm) : Lo z u u := fun _ _ => rfl
theorem Lo.tr {z : Nat} {u v w : Mm} (h : Lo z u v) (h2 : Lo z v w) : Lo z u w := fun a ha => (h a ha).trans (h2 a ha)
theorem Lo.wr {z : Nat} {u v : Mm} (h : Lo z u v) (k j : Nat) (x : Int32) (hk : z ≤ k ∧ k < z + 25) : Lo z (wr u k j x) v := fun a ha => by rw [wr_n _ _ _ (by omega)]; exact h a ha
theorem Lo.row {z : Nat} {u v : Mm} (h : Lo z u v) (k : Nat) (f : Nat → Int32) (hk : z ≤ k ∧ k < z + 25) : Lo z (wrA u k f) v := fun a ha => by rw [wrA_n _ _ (by omega)]; exact h a ha
theorem Lo.sB {z : Nat} {u v : Mm} (h : Lo z u v) (a b : Int32) {n : Nat} (hn : n ≤ 8) : Lo z (sB u z a b n) v := fun x hx => by
  simp only [_root_.Jvm.Pilot.CSnowMazeLaw_law_r9786_1e919e.sB]
  rw [if_neg (by omega)]; exact h x hx
theorem Lo.put {z : Nat} {u v : Mm} (h : Lo z u v) (a b : Int32) : Lo z (m_X3_put u (z + 1) a b) v := fun x hx => by rw [put_o (by omega)]; exact h x hx
theorem Lo.step {I : Mm} {z N w : Nat} (hw : z ≤ w ∧ w < z + 17) (hN : N ≤ 8) (d : Int32) : Lo z (stepM I z w N d) I := by
  unfold stepM
  repeat' split
  · exact Lo.rf _ _
  · exact (Lo.rf _ _).wr _ _ _ (by omega)
  · simp only [dug]
    exact (((((Lo.rf z I).put _ _).wr _ _ _ (by omega)).sB _ _ hN).wr _ _ _ (by omega))
  · exact (Lo.rf _ _).put _ _
  · exact Lo.rf _ _
theorem Lo.drop {I u : Mm} {z w : Nat} (h : Lo z u I) (hw : z ≤ w ∧ w < z + 17) : Lo z (dropS u w) I := by
  simp only [dropS, m_X4_dropFirstOrder, shO]
  split
  · exact (h.row _ _ (by omega)).wr _ _ _ (by omega)
  · exact h
theorem Lo.shore {I : Mm} {z w : Nat} (hw : z ≤ w ∧ w < z + 17) : Lo z (m_X0_shore I z w) I := by
  simp only [m_X0_shore, m_X3_setPost]
  repeat' split
  · exact Lo.rf _ _
  · exact (Lo.rf _ _).wr _ _ _ (by omega)
  · exact ((Lo.rf _ _).wr _ _ _ (by omega)).wr _ _ _ (by omega)
  · exact Lo.rf _ _
theorem Lo.hand {I : Mm} {z g1 g2 : Nat} (h1 : z ≤ g1 ∧ g1 < z + 17) (h2 : z ≤ g2 ∧ g2 < z + 17) : Lo z (m_X0_handLamp I z g1 g2) I := by
  simp only [m_X0_handLamp]
  exact (((Lo.rf z I).wr _ _ _ (by omega)).wr _ _ _ (by omega)).wr _ _ _ (by omega)
theorem Lo.trade {I : Mm} {z N w : Nat} (hw : z ≤ w ∧ w < z + 17) (hN : N ≤ 8) : Lo z (tradeM I z w N) I := by
  unfold tradeM
  split
  · exact Lo.rf _ _
  · rename_i j hj
    have hj := (pfind_lt hj).1
    repeat' split
    · exact Lo.rf _ _
    · exact Lo.hand (by omega) hw
    · exact Lo.hand hw (by omega)
theorem Lo.act {I : Mm} {z N w : Nat} (hw : z ≤ w ∧ w < z + 17) (hN : N ≤ 8) : Lo z (actM I z w N) I := by
  have hR : Lo z (restM I z w N) I := by
    unfold restM
    repeat' split
    · exact (Lo.shore hw).drop hw
    · exact Lo.trade hw hN
    · exact (Lo.trade hw hN).drop hw
    · exact (Lo.rf _ _).drop hw
  unfold actM
  repeat' split
  · exact hR
  · exact hR
  · exact Lo.step hw hN _
  · exact (Lo.step hw hN _).drop hw
theorem Lo.burn {I : Mm} {z w : Nat} (hw : z ≤ w ∧ w < z + 25) : Lo z (m_X4_burnOil I w) I := by
  simp only [m_X4_burnOil]
  repeat' split
  all_goals first | exact Lo.rf _ _ | exact (Lo.rf _ _).wr _ _ _ hw | exact ((Lo.rf _ _).wr _ _ _ hw).wr _ _ _ hw | exact (((Lo.rf _ _).wr _ _ _ hw).wr _ _ _ hw).wr _ _ _ hw
theorem Lo.burnA {I : Mm} {z : Nat} : ∀ i, i ≤ 8 → Lo z (_root_.Jvm.Pilot.CSnowMazeLaw_law_r9786_1e919e.burnA I z i) I
  | 0, _ => Lo.rf _ _
  | i + 1, hi => by
    simp only [_root_.Jvm.Pilot.CSnowMazeLaw_law_r9786_1e919e.burnA]
    split
    · exact (Lo.burn (by omega)).tr (Lo.burnA i (by omega))
    · exact Lo.burnA i (by omega)
theorem Lo.actA {I : Mm} {z N : Nat} (hN : N ≤ 8) : ∀ i, i ≤ 8 → Lo z (_root_.Jvm.Pilot.CSnowMazeLaw_law_r9786_1e919e.actA I z N i) I
  | 0, _ => Lo.rf _ _
  | i + 1, hi => by
    simp only [_root_.Jvm.Pilot.CSnowMazeLaw_law_r9786_1e919e.actA]
    split
    · exact (Lo.act (by omega) hN).tr (Lo.actA hN i (by omega))
    · exact Lo.actA hN i (by omega)
theorem Lo.fall {G : Mm} {held : Nat → Prop} {z N : Nat} (hN : N ≤ 8) : ∀ c, Lo z (fallM G held z N c) G
  | 0 => Lo.rf _ _
  | c + 1 => by
    have ih := Lo.fall (G := G) (held := held) (z := z) (N := N) hN c
    simp only [fallM]
    repeat' split
    · exact ih
    · exact ih
    · simp only [roof]
      exact ((ih.put _ _).sB _ _ hN).wr _ _ _ (by omega)
theorem Lo.low {I : Mm} {z N : Nat} (hN : N ≤ 8) : Lo z (lowM I z N) I := (Lo.fall hN 256).tr ((Lo.rf _ _).row _ _ (by omega))
theorem Lo.tick {I : Mm} {z N : Nat} (hN : N ≤ 8) : Lo z (tickM I z N) I := (((Lo.low hN).tr (Lo.actA hN N hN)).tr (Lo.burnA N hN)).wr _ _ _ (by omega)
theorem Lo.tkI {I : Mm} {z N : Nat} (hN : N ≤ 8) : ∀ n, Lo z (_root_.Jvm.Pilot.CSnowMazeLaw_law_r9786_1e919e.tkI I z N n) I
  | 0 => Lo.rf _ _
  | n + 1 => (Lo.tick hN).tr (Lo.tkI hN n)
theorem FX.ahd {I u : Mm} {k N n : Nat} (hN : N ≤ 8) (h : EX (k + 26) u (tkI (ahd I k) (k + 26) N n)) (hR : RX (k + 1) I) : FX k u I := by
  have e : ∀ a, a < k + 26 → u a = I a := fun a ha => by
    rw [h.1 a (by omega) (by omega) (by omega), Lo.tkI hN n a (Or.inl ha)]; exact ahd_o (Or.inl ha)
  exact ⟨fun a _ h2 _ _ _ => e a (by omega), hR.eq (by rw [e _ (by omega)]) (e _ (by omega)) (e _ (by omega)), h.2⟩
theorem FX.tk {I u : Mm} {k N n : Nat} (hN : N ≤ 8) (h : EX (k + 1) u (tkI I (k + 1) N n)) (hR : RX (k + 26) I) : FX k u (tkI I (k + 1) N n) :=
  FX.of h (hR.eq (by rw [Lo.tkI hN n _ (by omega)]) (Lo.tkI hN n _ (by omega)) (Lo.tkI hN n _ (by omega)))
/-- the first of so many steps at which it holds -/
def mtS (tog : Nat → Prop) (t : Nat) (r : Int32) : Prop := (∃ i, i ≤ t ∧ tog i ∧ (∀ j, j < i → ¬ tog j) ∧ r = nI i) ∨ ((∀ j, j ≤ t → ¬ tog j) ∧ r = -1)
noncomputable def togA (I : Mm) (z N a b i : Nat) : Prop := f_X0_areTogether (tkI I z N i) z a b ≠ 0
noncomputable def fsF (u : Mm) (z N : Nat) (c : Int32) : Int32 := if c = nI 0 then f_X0_buriedCrew u z N else if c = nI 1 then f_X3_openCells u (z + 1) else if c = nI 2 then f_X0_oilOfCrew u z N else f_X0_ordersOfCrew u z N
