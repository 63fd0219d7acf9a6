section IVS
variable {z N : Nat} {J : Mm}
theorem IV.tun (h : IV J z N) {i f : Nat} {x : Int32} (hi : i < N) (hW : WT (wr J (z + 8 + (1 + i)) f x) z N) (h2 : f = 2 → ∃ h, h ≤ 9 ∧ x = nI h) (h3 : f = 3 → ∃ h, h ≤ 60 ∧ x = nI h) (h0 : f = 0 ∨ f = 4 → ∀ p, p < 256 → wr J (z + 8 + (1 + i)) f x (z + 8 + (1 + i)) 4 = 0 → wr J (z + 8 + (1 + i)) f x (z + 8 + (1 + i)) 0 = nI p → J (z + 1 + 1) p = 0) : IV (wr J (z + 8 + (1 + i)) f x) z N := by
  obtain ⟨a, b, c, d, e, g, o⟩ := h
  have hN := a.2.1
  refine ⟨hW, fun q hq => by rw [wr_n _ _ _ (by omega)]; exact b q hq, fun q hq => by rw [wr_n _ _ _ (by omega), wr_n _ _ _ (by omega), wr_n _ _ _ (by omega)]; exact c q hq, fun q hq => by rw [wr_n _ _ _ (by omega)]; exact d q hq, fun i' hi' => ?_, fun i' h1 h2 => by rw [wr_n _ _ _ (by omega)]; exact g i' h1 h2, fun i' hi' j hj => by rw [wr_n _ _ _ (by omega)]; exact o i' hi' j hj⟩
  have es : wr J (z + 8 + (1 + i)) f x (z + 1 + 1) = J (z + 1 + 1) := wr_n _ _ _ (by omega)
  rw [es]
  by_cases ei : i' = i
  · subst ei
    obtain ⟨e1, e2, e3⟩ := e i' hi'
    refine ⟨?_, ?_, ?_⟩
    · by_cases ef : f = 2
      · subst ef; rw [wr_ss]; exact h2 rfl
      · rw [wr_sn _ _ _ (Ne.symm ef)]; exact e1
    · by_cases ef : f = 3
      · subst ef; rw [wr_ss]; exact h3 rfl
      · rw [wr_sn _ _ _ (Ne.symm ef)]; exact e2
    · intro h4 p hp hpp
      by_cases ef : f = 0 ∨ f = 4
      · exact h0 ef p hp h4 hpp
      · rw [wr_sn _ _ _ (by omega)] at h4 hpp
        exact e3 h4 p hp hpp
  · rw [show wr J (z + 8 + (1 + i)) f x (z + 8 + (1 + i')) = J (z + 8 + (1 + i')) from wr_n _ _ _ (by omega)]; exact e i' hi'
/-- a write of a word that no more is said of -/
theorem IV.oil (h : IV J z N) {i o : Nat} (hi : i < N) (ho : o ≤ 60) : IV (wr J (z + 8 + (1 + i)) 3 (nI o)) z N :=
  h.tun hi (h.1.wr _ _ _ ⟨by decide, by decide, by decide, fun _ => by omega⟩) (fun y => absurd y (by decide)) (fun _ => ⟨o, ho, rfl⟩) (fun y => absurd y (by decide))
theorem IV.lamps (h : IV J z N) {i o : Nat} (hi : i < N) (ho : o ≤ 9) : IV (wr J (z + 8 + (1 + i)) 2 (nI o)) z N :=
  h.tun hi (h.1.wr _ _ _ ⟨by decide, by decide, by decide, fun y => absurd y (by decide)⟩) (fun _ => ⟨o, ho, rfl⟩) (fun y => absurd y (by decide)) (fun y => absurd y (by decide))
theorem IV.free (h : IV J z N) {i f : Nat} (x : Int32) (hi : i < N) (hf : f = 1 ∨ f = 5) : IV (wr J (z + 8 + (1 + i)) f x) z N :=
  h.tun hi (h.1.wr _ _ _ ⟨by omega, by omega, by omega, fun y => by omega⟩) (fun y => by omega) (fun y => by omega) (fun y => by omega)
theorem IV.left (h : IV J z N) {i o : Nat} (hi : i < N) (ho : o ≤ 24) : IV (wr J (z + 8 + (1 + i)) 7 (nI o)) z N :=
  h.tun hi (h.1.left i o ho) (fun y => absurd y (by decide)) (fun y => absurd y (by decide)) (fun y => absurd y (by decide))
theorem IV.go (h : IV J z N) {i p : Nat} (hi : i < N) (hp : p < 256) (ho : J (z + 1 + 1) p = 0) : IV (wr J (z + 8 + (1 + i)) 0 (nI p)) z N :=
  h.tun hi (h.1.place i p hp) (fun y => absurd y (by decide)) (fun y => absurd y (by decide)) (fun _ q hq _ y => by
    rw [wr_ss] at y
    rw [← (nI_eq (by omega) (by omega)).mp y]; exact ho)
theorem IV.num (h : IV J z N) (j : Nat) (x : Int32) (hj : j ≠ 3) : IV (wr J z j x) z N := by
  obtain ⟨a, b, c, d, e, g, o⟩ := h
  refine ⟨a.wrz j x hj, fun q hq => by rw [wr_n _ _ _ (by omega)]; exact b q hq, fun q hq => by rw [wr_n _ _ _ (by omega), wr_n _ _ _ (by omega), wr_n _ _ _ (by omega)]; exact c q hq, fun q hq => by rw [wr_n _ _ _ (by omega)]; exact d q hq, fun i' hi' => ?_, fun i' h1 h2 => by rw [wr_n _ _ _ (by omega)]; exact g i' h1 h2, fun i' hi' j hj => by rw [wr_n _ _ _ (by omega)]; exact o i' hi' j hj⟩
  rw [show wr J z j x (z + 8 + (1 + i')) = J (z + 8 + (1 + i')) from wr_n _ _ _ (by omega), show wr J z j x (z + 1 + 1) = J (z + 1 + 1) from wr_n _ _ _ (by omega)]
  exact e i' hi'
/-- cells: sorts, ages, posts anew, tunnellers as they are -/
theorem IV.cells {J' : Mm} (h : IV J z N) (ht : ∀ a, a = z ∨ z + 9 ≤ a → J' a = J a) (hs : ∀ c, c < 256 → ∃ h, h ≤ 10 ∧ J' (z + 1 + 1) c = nI h) (hsn : ∀ c, c < 256 → J' (z + 1 + 1) c ≠ 0 → J' (z + 1 + 2) c = 0 ∧ J' (z + 1 + 3) c = 0) (hp : ∀ c, c < 256 → J' (z + 1 + 3) c = 0 ∨ J' (z + 1 + 3) c = 1) (hst : ∀ i, i < N → J (z + 8 + (1 + i)) 4 = 0 → ∀ p, p < 256 → J (z + 8 + (1 + i)) 0 = nI p → J' (z + 1 + 1) p = 0) : IV J' z N := by
  obtain ⟨a, b, c, d, e, g, o⟩ := h
  have hT : ∀ i, J' (z + 8 + (1 + i)) = J (z + 8 + (1 + i)) := fun i => ht _ (by omega)
  have hO : ∀ i, J' (z + 8 + (1 + i) + 8) = J (z + 8 + (1 + i) + 8) := fun i => ht _ (by omega)
  refine ⟨a.eq (by rw [ht z (Or.inl rfl)]) (fun i _ => by rw [hT]; exact ⟨rfl, rfl, rfl⟩), hs, hsn, hp, fun i hi => ?_, fun i h1 h2 => by rw [hT]; exact g i h1 h2, fun i hi j hj => by rw [hO]; exact o i hi j hj⟩
  rw [hT]
  exact ⟨(e i hi).1, (e i hi).2.1, hst i hi⟩
theorem IV.post1 (h : IV J z N) {c : Nat} (ho : J (z + 1 + 1) c = 0) : IV (wr J (z + 1 + 3) c (nI 1)) z N := by
  have e1 : wr J (z + 1 + 3) c (nI 1) (z + 1 + 1) = J (z + 1 + 1) := wr_n _ _ _ (by omega)
  have e2 : wr J (z + 1 + 3) c (nI 1) (z + 1 + 2) = J (z + 1 + 2) := wr_n _ _ _ (by omega)
  refine h.cells (fun a ha => wr_n _ _ _ (by omega)) (by rw [e1]; exact h.2.1) (fun q hq hn => ?_) (fun q hq => ?_) (by rw [e1]; exact fun i hi => (h.2.2.2.2.1 i hi).2.2)
  · rw [e1] at hn
    rw [e2, wr_sn _ _ _ (fun e => hn (by rw [e]; exact ho))]
    exact h.2.2.1 q hq hn
  · by_cases e : q = c
    · rw [e, wr_ss]; exact Or.inr rfl
    · rw [wr_sn _ _ _ e]; exact h.2.2.2.1 q hq
theorem IV.snow (h : IV J z N) {c a : Nat} (h0 : ¬ J (z + 1 + 1) c = 0) (ha : a ≤ 10) (ha0 : a ≠ 0) : IV (wr J (z + 1 + 1) c (nI a)) z N := by
  have e2 : wr J (z + 1 + 1) c (nI a) (z + 1 + 2) = J (z + 1 + 2) := wr_n _ _ _ (by omega)
  have e3 : wr J (z + 1 + 1) c (nI a) (z + 1 + 3) = J (z + 1 + 3) := wr_n _ _ _ (by omega)
  refine h.cells (fun b hb => wr_n _ _ _ (by omega)) (fun q hq => ?_) (fun q hq hn => ?_) (by rw [e3]; exact h.2.2.2.1) (fun i hi h4 p hp hpp => ?_)
  · by_cases e : q = c
    · rw [e, wr_ss]; exact ⟨a, ha, rfl⟩
    · rw [wr_sn _ _ _ e]; exact h.2.1 q hq
  · rw [e2, e3]
    by_cases e : q = c
    · rw [e] at hq ⊢; exact h.2.2.1 c hq h0
    · rw [wr_sn _ _ _ e] at hn; exact h.2.2.1 q hq hn
  · have ho := (h.2.2.2.2.1 i hi).2.2 h4 p hp hpp
    rw [wr_sn _ _ _ (fun e => h0 (by rw [← e]; exact ho))]; exact ho
/-- a cell is opened, and who is buried there is free -/
theorem put_at {c q : Nat} (hc : c < 256) (x : Int32) : m_X3_put J (z + 1) (nI c) x (z + 1 + 1) q = (if q = c then x else J (z + 1 + 1) q) ∧ m_X3_put J (z + 1) (nI c) x (z + 1 + 2) q = (if q = c then 0 else J (z + 1 + 2) q) ∧ m_X3_put J (z + 1) (nI c) x (z + 1 + 3) q = (if q = c then 0 else J (z + 1 + 3) q) := by
  rw [put_c hc]
  refine ⟨?_, ?_, ?_⟩
  · rw [wr_n _ _ _ (by omega), wr_n _ _ _ (by omega)]
    by_cases e : q = c
    · rw [e, wr_ss, if_pos rfl]
    · rw [wr_sn _ _ _ e, if_neg e]
  · rw [wr_n _ _ _ (by omega)]
    by_cases e : q = c
    · rw [e, wr_ss, if_pos rfl]; rfl
    · rw [wr_sn _ _ _ e, wr_n _ _ _ (by omega), if_neg e]
  · by_cases e : q = c
    · rw [e, wr_ss, if_pos rfl]; rfl
    · rw [wr_sn _ _ _ e, wr_n _ _ _ (by omega), wr_n _ _ _ (by omega), if_neg e]
theorem sB_4 {I : Mm} {a b : Int32} {n i : Nat} (hi : i < n) : sB I z a b n (z + 8 + (1 + i)) 4 = if I (z + 8 + (1 + i)) 0 = a then b else I (z + 8 + (1 + i)) 4 := by
  simp only [sB]
  by_cases e : I (z + 8 + (1 + i)) 0 = a
  · rw [if_pos ⟨by omega, by omega, e⟩, upd_ap, if_pos rfl, if_pos e]
  · rw [if_neg (fun y => e y.2.2), if_neg e]
/-- a cell and those who stand there, both at once -/
theorem IV.both {c : Nat} {x b : Int32} (h : IV J z N) (hc : c < 256) (hx : ∃ h, h ≤ 10 ∧ x = nI h) (hb : b = 0 ∨ b = 1) (hok : x = 0 ∨ b = 1) : IV (sB (m_X3_put J (z + 1) (nI c) x) z (nI c) b N) z N := by
  have hN := h.1.2.1
  have ho : ∀ a, a < z + 9 → sB (m_X3_put J (z + 1) (nI c) x) z (nI c) b N a = m_X3_put J (z + 1) (nI c) x a := fun a ha => sB_o (Or.inl ha)
  have hT : ∀ i f, f ≠ 4 → sB (m_X3_put J (z + 1) (nI c) x) z (nI c) b N (z + 8 + (1 + i)) f = J (z + 8 + (1 + i)) f := fun i f hf => by rw [sB_i hf, put_o (by omega)]
  have hT4 : ∀ i, i < N → sB (m_X3_put J (z + 1) (nI c) x) z (nI c) b N (z + 8 + (1 + i)) 4 = if J (z + 8 + (1 + i)) 0 = nI c then b else J (z + 8 + (1 + i)) 4 := fun i hi => by rw [sB_4 hi, put_o (by omega)]
  have hn : nI 0 = (0 : Int32) := rfl
  refine ⟨(h.1.put _ _).sB _ _ _ hb, fun q hq => ?_, fun q hq hz => ?_, fun q hq => ?_, fun i hi => ?_, fun i h1 h2 => ?_, fun i hi j hj => ?_⟩
  · rw [ho _ (by omega), (put_at hc x).1]
    by_cases e : q = c
    · rw [if_pos e]; exact hx
    · rw [if_neg e]; exact h.2.1 q hq
  · rw [ho _ (by omega), (put_at hc x).1] at hz
    rw [ho _ (by omega), ho _ (by omega), (put_at hc x).2.1, (put_at hc x).2.2]
    by_cases e : q = c
    · rw [if_pos e, if_pos e]; exact ⟨rfl, rfl⟩
    · rw [if_neg e] at hz; rw [if_neg e, if_neg e]; exact h.2.2.1 q hq hz
  · rw [ho _ (by omega), (put_at hc x).2.2]
    by_cases e : q = c
    · rw [if_pos e]; exact Or.inl rfl
    · rw [if_neg e]; exact h.2.2.2.1 q hq
  · rw [hT i 2 (by decide), hT i 3 (by decide), hT i 0 (by decide), hT4 i hi]
    refine ⟨(h.2.2.2.2.1 i hi).1, (h.2.2.2.2.1 i hi).2.1, fun h4 p hp hpp => ?_⟩
    rw [ho _ (by omega), (put_at hc x).1]
    by_cases e : p = c
    · rw [if_pos e]
      rw [if_pos (by rw [hpp, e])] at h4
      rcases hok with g | g
      · exact g
      · rw [g] at h4; exact absurd h4 (by decide)
    · rw [if_neg e]
      rw [if_neg (by rw [hpp]; exact fun y => e ((nI_eq (by omega) (by omega)).mp y))] at h4
      exact (h.2.2.2.2.1 i hi).2.2 h4 p hp hpp
  · rw [show sB (m_X3_put J (z + 1) (nI c) x) z (nI c) b N (z + 8 + (1 + i)) = J (z + 8 + (1 + i)) from by rw [sB_o (Or.inr (by omega)), put_o (by omega)]]
    exact h.2.2.2.2.2.1 i h1 h2
  · rw [show sB (m_X3_put J (z + 1) (nI c) x) z (nI c) b N (z + 8 + (1 + i) + 8) = J (z + 8 + (1 + i) + 8) from by
      by_cases g : z + 8 + (1 + i) + 8 < z + 9 + N
      · omega
      · rw [sB_o (Or.inr (by omega)), put_o (by omega)]]
    exact h.2.2.2.2.2.2 i hi j hj
theorem IV.shO (h : IV J z N) {i n : Nat} (hn : n ≤ 24) : IV (_root_.Jvm.Pilot.CSnowMazeLaw_law_r9786_1e919e.shO J (z + 8 + (1 + i)) n) z N := by
  obtain ⟨a, b, c, d, e, g, o⟩ := h
  have hN := a.2.1
  have ho : ∀ x, x ≠ z + 8 + (1 + i) + 8 → _root_.Jvm.Pilot.CSnowMazeLaw_law_r9786_1e919e.shO J (z + 8 + (1 + i)) n x = J x := fun x hx => wrA_n _ _ hx
  refine ⟨a.eq (by rw [ho _ (by omega)]) (fun i' hi' => by rw [ho _ (by omega)]; exact ⟨rfl, rfl, rfl⟩), fun q hq => by rw [ho _ (by omega)]; exact b q hq, fun q hq => by rw [ho _ (by omega), ho _ (by omega), ho _ (by omega)]; exact c q hq, fun q hq => by rw [ho _ (by omega)]; exact d q hq, fun i' hi' => by rw [ho _ (by omega), ho _ (by omega)]; exact e i' hi', fun i' h1 h2 => by rw [ho _ (by omega)]; exact g i' h1 h2, fun i' hi' j hj => ?_⟩
  by_cases ei : i' = i
  · subst ei
    simp only [_root_.Jvm.Pilot.CSnowMazeLaw_law_r9786_1e919e.shO]
    rw [wrA_s]
    by_cases g : j + 1 < n
    · rw [if_pos g]; exact o i' hi' (j + 1) (by omega)
    · rw [if_neg g]; exact o i' hi' j hj
  · rw [ho _ (by omega)]; exact o i' hi' j hj
theorem IV.drop (h : IV J z N) {i : Nat} (hi : i < N) : IV (dropS J (z + 8 + (1 + i))) z N := by
  obtain ⟨w, hw, e⟩ := h.1.2.2.2.2 i hi
  simp only [dropS, m_X4_dropFirstOrder]
  rw [e, nI_clamp (by omega)]
  split
  · exact (h.shO hw).left hi (by omega)
  · exact h
theorem IV.burn (h : IV J z N) {i : Nat} (hi : i < N) : IV (m_X4_burnOil J (z + 8 + (1 + i))) z N := by
  obtain ⟨⟨l, hl, el⟩, ⟨o, ho, eo⟩, -⟩ := h.2.2.2.2.1 i hi
  have hN := h.1.2.1
  simp only [m_X4_burnOil]
  have e1 : ∀ x, wr J (z + 8 + (1 + i)) 3 x (z + 8 + (1 + i)) 2 = nI l := fun x => by rw [wr_sn _ _ _ (by decide)]; exact el
  by_cases h1 : J (z + 8 + (1 + i)) 3 ≤ 0
  · rw [if_pos h1]
    split
    · split
      · exact h
      · rename_i h2
        have hl0 : l ≠ 0 := fun y => by rw [el, y] at h2; exact h2 (by decide)
        rw [el, pk_sub (show 1 ≤ l from by omega)]
        exact (h.lamps hi (by omega)).oil hi (by omega)
    · exact h
  · rw [if_neg h1]
    have ho0 : o ≠ 0 := fun y => by rw [eo, y] at h1; exact h1 (by decide)
    have h3 := h.oil (i := i) (o := o - 1) hi (by omega)
    rw [eo, pk_sub (show 1 ≤ o from by omega), e1]
    split
    · split
      · exact h3
      · rename_i h2
        have hl0 : l ≠ 0 := fun y => by rw [y] at h2; exact h2 (by decide)
        rw [pk_sub (show 1 ≤ l from by omega)]
        exact (h3.lamps hi (by omega)).oil hi (by omega)
    · exact h3
theorem IV.hand (h : IV J z N) {i j : Nat} (hi : i < N) (hj : j < N) (hij : i ≠ j) (hl : ¬ J (z + 8 + (1 + i)) 2 < J (z + 8 + (1 + j)) 2 + nI 2) : IV (m_X0_handLamp J z (z + 8 + (1 + i)) (z + 8 + (1 + j))) z N := by
  obtain ⟨l, h9, el⟩ := (h.2.2.2.2.1 i hi).1
  obtain ⟨l2, h92, el2⟩ := (h.2.2.2.2.1 j hj).1
  have hN := h.1.2.1
  rw [hand_eq (by omega) (by omega) (by omega), el, el2]
  rw [el, el2, nI_add] at hl
  have hle : l2 + 2 ≤ l := Nat.not_lt.mp (fun y => hl ((nI_ltI (by omega) (by omega)).mpr y))
  rw [nI_m (by omega), nI_add]
  exact ((h.lamps hi (by omega)).lamps hj (by omega)).num _ _ (by decide)
theorem IV.trade (h : IV J z N) {i : Nat} (hi : i < N) : IV (tradeM J z (z + 8 + (1 + i)) N) z N := by
  unfold tradeM
  split
  · exact h
  · rename_i j hj
    obtain ⟨hj1, hj2⟩ := pfind_lt hj
    have hij : j ≠ i := fun e => by rw [e, pP_f1 rfl] at hj2; exact absurd hj2 (by decide)
    split
    · split
      · exact h
      · rename_i g; exact h.hand hj1 hi hij g
    · rename_i g; exact h.hand hi hj1 (Ne.symm hij) g
theorem IV.shore (h : IV J z N) {i : Nat} (hi : i < N) (h4 : J (z + 8 + (1 + i)) 4 = 0) : IV (m_X0_shore J z (z + 8 + (1 + i))) z N := by
  obtain ⟨p, hp, e⟩ := h.place hi
  have ho := (h.2.2.2.2.1 i hi).2.2 h4 p hp e
  simp only [m_X0_shore, m_X3_setPost]
  repeat' split
  · exact h
  · exact h.free _ hi (Or.inl rfl)
  · rw [wr_sn _ _ _ (by decide), e, nI_clamp (by omega)]
    exact (h.free _ hi (Or.inl rfl)).post1 (by rw [wr_n _ _ _ (by omega)]; exact ho)
  · exact h
theorem IV.step (h : IV J z N) {i d : Nat} (hi : i < N) (hd : d < 4) (h4 : J (z + 8 + (1 + i)) 4 = 0) : IV (stepM J z (z + 8 + (1 + i)) N (nI d)) z N := by
  obtain ⟨p, hp, e⟩ := h.place hi
  unfold stepM
  by_cases hb : nb p d < 256
  · rw [e, bes5 hp hd hb, sort_in hb]
    obtain ⟨a, ha, ea⟩ := h.2.1 (nb p d) hb
    by_cases h10 : J (z + 1 + 1) (nb p d) = nI 10
    · rw [if_pos h10]; exact h
    · rw [if_neg h10]
      by_cases h0 : a = 0
      · subst h0
        rw [if_pos (by rw [ea]; decide)]
        exact h.go hi hb ea
      · have dt := dig_t a (by omega) h0
        rw [if_neg (by rw [ea]; exact dt.2.2)]
        split
        · split
          · rename_i h1
            rw [ea] at h1
            rw [ea, dt.2.1 h1]
            have hv := h.both (x := nI 0) (b := 0) hb ⟨0, by omega, rfl⟩ (Or.inl rfl) (Or.inl rfl)
            have e3 : dug (m_X3_put J (z + 1) (nI (nb p d)) (nI 0)) z (z + 8 + (1 + i)) N (nI (nb p d)) = wr (sB (wr (m_X3_put J (z + 1) (nI (nb p d)) (nI 0)) (z + 8 + (1 + i)) 5 (m_X3_put J (z + 1) (nI (nb p d)) (nI 0) (z + 8 + (1 + i)) 5 + nI 1)) z (nI (nb p d)) (nI 0) N) (z + 8 + (1 + i)) 0 (nI (nb p d)) := rfl
            rw [e3]
            have e4 : m_X3_put (wr J (z + 8 + (1 + i)) 5 (m_X3_put J (z + 1) (nI (nb p d)) (nI 0) (z + 8 + (1 + i)) 5 + nI 1)) (z + 1) (nI (nb p d)) (nI 0) = wr (m_X3_put J (z + 1) (nI (nb p d)) (nI 0)) (z + 8 + (1 + i)) 5 (m_X3_put J (z + 1) (nI (nb p d)) (nI 0) (z + 8 + (1 + i)) 5 + nI 1) := by
              rw [put_c hb, put_c hb, wr_comm _ _ _ _ _ (show z + 8 + (1 + i) ≠ z + 1 + 1 from by omega), wr_comm _ _ _ _ _ (show z + 8 + (1 + i) ≠ z + 1 + 2 from by omega), wr_comm _ _ _ _ _ (show z + 8 + (1 + i) ≠ z + 1 + 3 from by omega)]
            rw [← e4]
            refine ((h.free _ hi (Or.inr rfl)).both (x := nI 0) (b := nI 0) hb ⟨0, by omega, rfl⟩ (Or.inl rfl) (Or.inl rfl)).go hi hb ?_
            rw [sB_o (Or.inl (by omega)), (put_at hb _).1, if_pos rfl]; rfl
          · rename_i h1
            rw [ea] at h1
            rw [ea, pk_sub (show 1 ≤ a from by omega), put_snow h hb (by rw [ea]; exact fun y => h0 ((nI_eq (by omega) (by decide)).mp y))]
            refine h.snow (by rw [ea]; exact fun y => h0 ((nI_eq (by omega) (by decide)).mp y)) (by omega) (fun y => h1 ?_)
            rw [show a = 1 from by omega]; exact Int32.le_refl _
        · exact h
  · rw [e, if_pos (ice_out hp hd hb z J)]; exact h
theorem first_n {w i : Nat} (h : IV J z N) (hi : i < 8) (hw : J (z + 8 + (1 + i)) 7 = nI w) (hw1 : 1 ≤ w) (hw2 : w ≤ 24) : ∃ o, o ≤ 6 ∧ J (z + 8 + (1 + i) + 8) 0 = nI o ∧ f_X4_firstOrder J (z + 8 + (1 + i)) = nI o := by
  obtain ⟨o, ho, eo⟩ := h.2.2.2.2.2.2 i hi 0 (by decide)
  refine ⟨o, ho, eo, ?_⟩
  simp only [f_X4_firstOrder]
  rw [hw, if_neg (show ¬ nI w ≤ 0 from fun y => absurd ((nI_leI (a := w) (b := 0) (by omega) (by decide)).mp y) (by omega)), eo]
theorem first_0 {w : Nat} (hw : J w 7 = nI 0) : f_X4_firstOrder J w = -1 := by
  simp only [f_X4_firstOrder]
  rw [hw, if_pos (by decide)]
/-- who has no order does nothing -/
theorem act_0 {w : Nat} (hw : J w 7 = nI 0) : actM J z w N = J := by
  have e := first_0 hw
  unfold actM
  rw [e, if_pos (by decide)]
  unfold restM
  rw [e, if_neg (by decide), if_neg (by decide)]
  simp only [dropS, m_X4_dropFirstOrder]
  rw [hw, if_neg (by decide)]
theorem IV.act (h : IV J z N) {i : Nat} (hi : i < N) (h4 : J (z + 8 + (1 + i)) 4 = 0) : IV (actM J z (z + 8 + (1 + i)) N) z N := by
  obtain ⟨w, hw, ew⟩ := h.1.2.2.2.2 i hi
  have hN := h.1.2.1
  by_cases hw1 : w = 0
  · rw [hw1] at ew; rw [act_0 ew]; exact h
  · obtain ⟨o, ho, -, e⟩ := first_n h (by omega) ew (by omega) hw
    have hr : IV (restM J z (z + 8 + (1 + i)) N) z N := by
      unfold restM
      repeat' split
      · exact (h.shore hi h4).drop hi
      · exact h.trade hi
      · exact (h.trade hi).drop hi
      · exact h.drop hi
    unfold actM
    rw [e]
    split
    · exact hr
    · split
      · exact hr
      · rename_i g
        have ho4 : o < 4 := Nat.lt_of_not_le fun y => g (nI_le y (by omega))
        split
        · exact h.step hi ho4 h4
        · exact (h.step hi ho4 h4).drop hi
theorem IV.burnA (h : IV J z N) : ∀ i, i ≤ N → IV (_root_.Jvm.Pilot.CSnowMazeLaw_law_r9786_1e919e.burnA J z i) z N
  | 0, _ => h
  | i + 1, hi => by
    have ih := IV.burnA h i (by omega)
    simp only [_root_.Jvm.Pilot.CSnowMazeLaw_law_r9786_1e919e.burnA]
    split
    · exact ih.burn hi
    · exact ih
theorem IV.actA (h : IV J z N) : ∀ i, i ≤ N → IV (_root_.Jvm.Pilot.CSnowMazeLaw_law_r9786_1e919e.actA J z N i) z N
  | 0, _ => h
  | i + 1, hi => by
    have ih := IV.actA h i (by omega)
    simp only [_root_.Jvm.Pilot.CSnowMazeLaw_law_r9786_1e919e.actA]
    split
    · rename_i g; exact ih.act hi g
    · exact ih
theorem gro_in {n : Nat} : gro J (z + 1) n (z + 1 + 1) = J (z + 1 + 1) ∧ gro J (z + 1) n (z + 1 + 3) = J (z + 1 + 3) := ⟨wrA_n _ _ (by omega), wrA_n _ _ (by omega)⟩
theorem IV.gro (h : IV J z N) (n : Nat) : IV (_root_.Jvm.Pilot.CSnowMazeLaw_law_r9786_1e919e.gro J (z + 1) n) z N := by
  have e := @gro_in z J n
  refine h.cells (fun a ha => wrA_n _ _ (by omega)) (by rw [e.1]; exact h.2.1) (fun c hc hn => ?_) (by rw [e.2]; exact h.2.2.2.1) (by rw [e.1]; exact fun i hi => (h.2.2.2.2.1 i hi).2.2)
  rw [e.1] at hn
  rw [e.2]
  refine ⟨?_, (h.2.2.1 c hc hn).2⟩
  simp only [_root_.Jvm.Pilot.CSnowMazeLaw_law_r9786_1e919e.gro]
  rw [wrA_s, if_neg (fun y => hn y.2)]
  exact (h.2.2.1 c hc hn).1
theorem IV.roof (h : IV J z N) {c : Nat} (hc : c < 256) : IV (_root_.Jvm.Pilot.CSnowMazeLaw_law_r9786_1e919e.roof J z N c) z N :=
  (h.both hc ⟨2, by decide, rfl⟩ (Or.inr rfl) (Or.inr rfl)).num _ _ (by decide)
theorem IV.fall (h : IV J z N) {held : Nat → Prop} : ∀ c, c ≤ 256 → IV (fallM J held z N c) z N
  | 0, _ => h
  | c + 1, hc => by
    have ih := IV.fall h (held := held) c (by omega)
    simp only [fallM]
    repeat' split
    · exact ih
    · exact ih
    · exact ih.roof (by omega)
theorem IV.low (h : IV J z N) : IV (lowM J z N) z N := (h.gro 256).fall 256 (Nat.le_refl _)
theorem IV.tick (h : IV J z N) : IV (tickM J z N) z N := (((h.burnA N (Nat.le_refl _)).actA N (Nat.le_refl _)).low).num _ _ (by decide)
theorem IV.tkI (h : IV J z N) : ∀ n, IV (_root_.Jvm.Pilot.CSnowMazeLaw_law_r9786_1e919e.tkI J z N n) z N
  | 0 => h
  | n + 1 => (IV.tkI h n).tick
end IVS
