theorem FX.rfe {k : Nat} {u v : Mm} (e : u = v) (h : RX (k + 1) u) (h2 : RX (k + 26) u) : FX k u v := by rw [← e]; exact FX.rf h h2
theorem RX.eqA {z : Nat} {u v : Mm} (h : RX z u) (e : ∀ a, z + 5 ≤ a → a ≤ z + 7 → v a = u a) : RX z v :=
  h.eq (by rw [e (z + 5) (by omega) (by omega)]) (e (z + 5 + 1) (by omega) (by omega)) (e (z + 5 + 2) (by omega) (by omega))
theorem addO_fr {I : Mm} {k w : Nat} {o : Int32} : ∀ n x, x ≠ k → x ≠ k + 8 → addO I k w o n x = I x
  | 0, _, _, _ => rfl
  | n + 1, x, h1, h2 => by
    have ih := addO_fr (I := I) (k := k) (w := w) (o := o) n x h1 h2
    simp only [addO]
    first
      | rw [wr_n _ _ _ h1, wr_n _ _ _ h2]; exact ih
      | rw [wr_n _ _ _ h2, wr_n _ _ _ h1]; exact ih
section LAWC
variable {N : Nat} {J : Mm} {a b c0 d : Int32}
theorem lc_place : th_X5_placeOf a b = 0 ∨ th_X5_placeOf a b = 1 := place_01 a b
theorem lc_mem (q : Nat) : th_X5_member q a N = 0 ∨ th_X5_member q a N = 1 := by
  simp only [th_X5_member]
  split
  · exact Or.inr rfl
  · exact Or.inl rfl
theorem lc_ticks : th_X5_requireTicks a = 0 ∨ th_X5_requireTicks a = 2 := by
  simp only [th_X5_requireTicks]
  repeat' split
  all_goals first | exact Or.inl rfl | exact Or.inr rfl
theorem lc_in {n t : Nat} : thZ_in a n t = 0 ∨ thZ_in a n t = t := by
  simp only [thZ_in]
  repeat' split
  all_goals first | exact Or.inl rfl | exact Or.inr rfl
theorem lc_in_c {n : Nat} (hn : n < 2 ^ 31) (h1 : ¬ a < 0) (h2 : a ≤ nI n) : ∃ j, j ≤ n ∧ a = nI j := rng_n hn h1 h2
theorem lc_no {n j : Nat} (hn : n < 2 ^ 31) (hj : j ≤ n) (h : a < 0 ∨ ¬ a ≤ nI n) : ¬ a = nI j := fun e => by
  subst e
  rcases h with h | h
  · exact absurd h (nI_pos (by omega))
  · exact h ((nI_leI (by omega) hn).mpr hj)
theorem lc_out {n t : Nat} (h : a < 0 ∨ ¬ a ≤ nI n) : thZ_in a n t = t := by
  simp only [thZ_in]
  rcases h with h | h
  · rw [if_pos h]
  · by_cases g : a < 0
    · rw [if_pos g]
    · rw [if_neg g, if_neg h]
theorem lc_ok {n t j : Nat} (hn : n < 2 ^ 31) (hj : j ≤ n) (e : a = nI j) : thZ_in a n t = 0 := by
  subst e
  simp only [thZ_in]
  rw [if_neg (nI_pos (by omega)), if_pos ((nI_leI (by omega) hn).mpr hj)]
theorem lc_cases (n : Nat) (hn : n < 2 ^ 31) (a : Int32) : (a < 0 ∨ ¬ a ≤ nI n) ∨ ∃ j, j ≤ n ∧ a = nI j := by
  by_cases h1 : a < 0
  · exact Or.inl (Or.inl h1)
  · by_cases h2 : a ≤ nI n
    · exact Or.inr (rng_n hn h1 h2)
    · exact Or.inl (Or.inr h2)
theorem e_cell : th_X5_cell J 0 a b c0 N = thZ_cell a b c0 := by
  have e : thZ_cell a b c0 = if th_X5_placeOf a b = 0 then thZ_in c0 5 1 else th_X5_placeOf a b := rfl
  rw [e]
  simp only [th_X5_cell]
  split
  · rcases lc_cases 5 (by decide) c0 with h | ⟨j, hj, rfl⟩
    · rw [lc_out h, if_neg (lc_no (n := 5) (by decide) (by decide) h), if_neg (lc_no (n := 5) (by decide) (by decide) h), if_neg (lc_no (n := 5) (by decide) (by decide) h), if_neg (lc_no (n := 5) (by decide) (by decide) h), if_neg (lc_no (n := 5) (by decide) (by decide) h), if_neg (lc_no (n := 5) (by decide) (by decide) h)]
    · rw [lc_ok (by decide) hj rfl]
      rcases (show j = 0 ∨ j = 1 ∨ j = 2 ∨ j = 3 ∨ j = 4 ∨ j = 5 from by omega) with rfl | rfl | rfl | rfl | rfl | rfl <;> decide
  · rfl
theorem e_count : th_X5_count J 0 a N = thZ_in a 8 1 := by
  simp only [th_X5_count]
  rcases lc_cases 8 (by decide) a with h | ⟨j, hj, rfl⟩
  · rw [lc_out h]
    have hn : ∀ j, j ≤ 8 → ¬ a = nI j := fun j hj => lc_no (n := 8) (by decide) hj h
    rw [if_neg (hn 0 (by decide)), if_neg (hn 1 (by decide)), if_neg (hn 2 (by decide)), if_neg (hn 3 (by decide)), if_neg (hn 4 (by decide)), if_neg (hn 5 (by decide)), if_neg (hn 6 (by decide)), if_neg (hn 7 (by decide)), if_neg (hn 8 (by decide))]
  · rw [lc_ok (by decide) hj rfl]
    rcases (show j = 0 ∨ j = 1 ∨ j = 2 ∨ j = 3 ∨ j = 4 ∨ j = 5 ∨ j = 6 ∨ j = 7 ∨ j = 8 from by omega) with rfl | rfl | rfl | rfl | rfl | rfl | rfl | rfl | rfl <;> decide
theorem e_caves : th_X5_caves J 0 a N = thZ_in a 2 1 := by
  simp only [th_X5_caves]
  rcases lc_cases 2 (by decide) a with h | ⟨j, hj, rfl⟩
  · rw [lc_out h]
    have hn : ∀ j, j ≤ 2 → ¬ a = nI j := fun j hj => lc_no (n := 2) (by decide) hj h
    rw [if_neg (hn 0 (by decide)), if_neg (hn 1 (by decide)), if_neg (hn 2 (by decide))]
  · rw [lc_ok (by decide) hj rfl]
    rcases (show j = 0 ∨ j = 1 ∨ j = 2 from by omega) with rfl | rfl | rfl <;> decide
theorem e_tunneller : th_X5_tunneller J 0 a b N = thZ_tun N a b := by
  simp only [th_X5_tunneller, thZ_tun]
  rw [th_le 0 a N]
  split
  · rcases lc_cases 8 (by decide) b with h | ⟨j, hj, rfl⟩
    · rw [lc_out h]
      have hn : ∀ j, j ≤ 8 → ¬ b = nI j := fun j hj => lc_no (n := 8) (by decide) hj h
      rw [if_neg (hn 0 (by decide)), if_neg (hn 1 (by decide)), if_neg (hn 2 (by decide)), if_neg (hn 3 (by decide)), if_neg (hn 4 (by decide)), if_neg (hn 5 (by decide)), if_neg (hn 6 (by decide)), if_neg (hn 7 (by decide)), if_neg (hn 8 (by decide))]
    · rw [lc_ok (by decide) hj rfl]
      rcases (show j = 0 ∨ j = 1 ∨ j = 2 ∨ j = 3 ∨ j = 4 ∨ j = 5 ∨ j = 6 ∨ j = 7 ∨ j = 8 from by omega) with rfl | rfl | rfl | rfl | rfl | rfl | rfl | rfl | rfl <;> decide
  · rfl
theorem e_lay : th_X5_lay J 0 a b c0 N = thZ_lay J 1 N a b c0 := rfl
theorem e_come : th_X5_come J 0 a b c0 d N = thZ_come J 1 N a b c0 d := rfl
theorem e_order : th_X5_order J 0 a b c0 N = thZ_order J 1 N a b c0 := rfl
theorem e_call : th_X5_call J 0 a N = th_X5_member 0 a N := by
  simp only [th_X5_call]
  split
  · rename_i h; exact h.symm
  · rfl
theorem e_way : th_X5_way J 0 a b c0 d N = thZ_two a b c0 d := rfl
theorem e_dig {hd : Nat → Nat} : th_X5_dig J 0 a b c0 d N hd = thZ_two a b c0 d := rfl
theorem e_without : th_X5_without J 0 a b N = th_X5_placeOf a b := by
  simp only [th_X5_without]
  split
  · rename_i h
    split <;> exact h.symm
  · rfl
theorem e_meet : th_X5_meet J 0 a b c0 N = thZ_meet N a b c0 := by
  simp only [th_X5_meet, thZ_meet]
  have e : (0 + 1 + 8 + (1 + a.toNatClampNeg) = 0 + 1 + 8 + (1 + b.toNatClampNeg)) = (a.toNatClampNeg = b.toNatClampNeg) := by
    apply propext
    constructor <;> intro h <;> omega
  simp only [e]
/-- pass and foresee: the class's kinds of throw and the law's codes -/
theorem e_pass0 : th_X5_pass J 0 a N = 0 ↔ thZ_pass a = 0 := by
  simp only [th_X5_pass, thZ_pass]
  split
  · rfl
  · rename_i h
    exact ⟨fun y => absurd y h, fun y => absurd y (by decide)⟩
theorem e_pass2 (h : th_X5_pass J 0 a N = 2) : thZ_pass a = 1 := by
  simp only [th_X5_pass] at h
  simp only [thZ_pass]
  by_cases g : th_X5_requireTicks a = 0
  · rw [if_pos g] at h; exact absurd h (by decide)
  · rw [if_neg g]
theorem r_pass : th_X5_pass J 0 a N = 0 ∨ th_X5_pass J 0 a N = 2 := by
  simp only [th_X5_pass]
  split
  · exact Or.inl rfl
  · exact lc_ticks
theorem e_fs0 (h : th_X5_foresee J 0 a b N = 0) : thZ_fs a b = 0 := by
  simp only [th_X5_foresee] at h
  simp only [thZ_fs]
  by_cases g : th_X5_requireTicks a = 0
  · rw [if_pos g] at h ⊢
    by_cases g2 : b < 0
    · rw [if_pos g2] at h; exact absurd h (by decide)
    · rw [if_neg g2] at h ⊢
      by_cases g3 : b ≤ nI 3
      · rw [if_pos g3]
      · rw [if_neg g3] at h; exact absurd h (by decide)
  · rw [if_neg g] at h; exact absurd h g
theorem e_fs2 (h : th_X5_foresee J 0 a b N = 2) : thZ_fs a b = 1 := by
  simp only [th_X5_foresee] at h
  simp only [thZ_fs]
  by_cases g : th_X5_requireTicks a = 0
  · rw [if_pos g] at h
    by_cases g2 : b < 0
    · rw [if_pos g2] at h; exact absurd h (by decide)
    · rw [if_neg g2] at h
      by_cases g3 : b ≤ nI 3
      · rw [if_pos g3] at h; exact absurd h (by decide)
      · rw [if_neg g3] at h; exact absurd h (by decide)
  · rw [if_neg g]
theorem e_fs1 (h : th_X5_foresee J 0 a b N = 1) : thZ_fs a b = 2 := by
  simp only [th_X5_foresee] at h
  simp only [thZ_fs]
  by_cases g : th_X5_requireTicks a = 0
  · rw [if_pos g] at h ⊢
    by_cases g2 : b < 0
    · rw [if_pos g2]
    · rw [if_neg g2] at h ⊢
      by_cases g3 : b ≤ nI 3
      · rw [if_pos g3] at h; exact absurd h (by decide)
      · rw [if_neg g3]
  · rw [if_neg g] at h
    rcases lc_ticks (a := a) with y | y <;> (rw [y] at h; exact absurd h (by decide))
theorem r_fs : th_X5_foresee J 0 a b N = 0 ∨ th_X5_foresee J 0 a b N = 1 ∨ th_X5_foresee J 0 a b N = 2 := by
  simp only [th_X5_foresee]
  split
  · repeat' split
    all_goals first | exact Or.inl rfl | exact Or.inr (Or.inl rfl)
  · rcases lc_ticks (a := a) with y | y
    · exact Or.inl y
    · exact Or.inr (Or.inr y)
theorem r_cell : thZ_cell a b c0 = 0 ∨ thZ_cell a b c0 = 1 := by
  simp only [thZ_cell]
  repeat' split
  all_goals first | exact Or.inl rfl | exact Or.inr rfl | exact lc_place
theorem r_tun : thZ_tun N a b = 0 ∨ thZ_tun N a b = 1 := by
  simp only [thZ_tun]
  split
  · exact lc_in
  · exact lc_mem 0
theorem r_two : thZ_two a b c0 d = 0 ∨ thZ_two a b c0 d = 1 := by
  simp only [thZ_two]
  split
  · split
    · exact Or.inl rfl
    · exact lc_place
  · exact lc_place
theorem r_meet : thZ_meet N a b c0 = 0 ∨ thZ_meet N a b c0 = 1 ∨ thZ_meet N a b c0 = 2 := by
  simp only [thZ_meet]
  split
  · split
    · split
      · exact Or.inr (Or.inr rfl)
      · split
        · exact Or.inl rfl
        · rcases lc_ticks (a := c0) with y | y
          · exact Or.inl y
          · exact Or.inr (Or.inr y)
    · rcases lc_mem (a := b) (N := N) 0 with y | y
      · exact Or.inl y
      · exact Or.inr (Or.inl y)
  · rcases lc_mem (a := a) (N := N) 0 with y | y
    · exact Or.inl y
    · exact Or.inr (Or.inl y)
/-- a call that answers: the ghost's words -/
theorem k_lay (hR : RX 1 J) (hR2 : RX 26 J) (h : th_X5_lay J 0 a b c0 N = 0) : f_X5_lay J 0 a b c0 N = J (1 + 1 + 1) (pl a b) ∧ FX 0 (m_X5_lay J 0 a b c0 N) (mZ_lay J 1 N a b c0) := by
  have h0 : thZ_lay J 1 N a b c0 = 0 := h
  simp only [th_X5_lay] at h
  by_cases h1 : th_X5_placeOf a b = 0
  · rw [if_pos h1] at h
    by_cases h2 : c0 < 0
    · rw [if_pos h2] at h; exact absurd h (by decide)
    · rw [if_neg h2] at h
      by_cases h3 : c0 ≤ nI 10
      · rw [if_pos h3] at h
        by_cases h4 : f_X0_crewAt J (0 + 1) (nI (pl a b)) N ≤ 0
        · have e1 : m_X5_lay J 0 a b c0 N = m_X3_put J (1 + 1) (nI (pl a b)) c0 := by
            simp only [m_X5_lay]; rw [if_pos h1, if_neg h2, if_pos h3, if_pos h4]
          refine ⟨?_, FX.rfe ?_ ?_ ?_⟩
          · simp only [f_X5_lay]; rw [if_pos h1, if_neg h2, if_pos h3, if_pos h4]; exact sort_in (pl_256 h1)
          · rw [e1]; simp only [mZ_lay]; rw [if_pos h0]
          · rw [e1]; exact hR.eqA (fun x g1 g2 => put_o (by omega))
          · rw [e1]; exact hR2.eqA (fun x g1 g2 => put_o (by omega))
        · rw [if_neg h4] at h; exact absurd h (by decide)
      · rw [if_neg h3] at h; exact absurd h (by decide)
  · rw [if_neg h1] at h; exact absurd h h1
theorem k_come (hN : N ≤ 8) (hR : RX 1 J) (hR2 : RX 26 J) (h : th_X5_come J 0 a b c0 d N = 0) : f_X5_come J 0 a b c0 d N = nI N ∧ FX 0 (m_X5_come J 0 a b c0 d N) (mZ_come J 1 N a b c0 d) := by
  have h0 : thZ_come J 1 N a b c0 d = 0 := h
  have e1 : m_X5_come J 0 a b c0 d N = m_X0_welcome J 1 (nI (pl a b)) c0 d N ∧ f_X5_come J 0 a b c0 d N = f_X0_welcome J 1 (nI (pl a b)) c0 d N ∧ nI N < nI 8 := by
    simp only [th_X5_come] at h
    simp only [m_X5_come, f_X5_come]
    by_cases h1 : th_X5_placeOf a b = 0
    · rw [if_pos h1] at h
      by_cases h2 : c0 < 0
      · rw [if_pos h2] at h; exact absurd h (by decide)
      · rw [if_neg h2] at h
        by_cases h3 : c0 ≤ nI 20
        · rw [if_pos h3] at h
          by_cases h4 : d < 0
          · rw [if_pos h4] at h; exact absurd h (by decide)
          · rw [if_neg h4] at h
            by_cases h5 : d ≤ nI 9
            · rw [if_pos h5] at h
              by_cases h6 : f_X3_sortAt J (0 + 1 + 1) (nI (pl a b)) = nI 10
              · rw [if_pos h6] at h; exact absurd h (by decide)
              · rw [if_neg h6] at h
                by_cases h7 : f_X0_buriedAt J (0 + 1) (nI (pl a b)) N ≤ 0
                · rw [if_pos h7] at h
                  by_cases h8 : nI N < nI 8
                  · rw [if_pos h1, if_neg h2, if_pos h3, if_neg h4, if_pos h5, if_neg h6, if_pos h7, if_pos h8, if_pos h1, if_neg h2, if_pos h3, if_neg h4, if_pos h5, if_neg h6, if_pos h7, if_pos h8]
                    exact ⟨rfl, rfl, h8⟩
                  · rw [if_neg h8] at h; exact absurd h (by decide)
                · rw [if_neg h7] at h; exact absurd h (by decide)
            · rw [if_neg h5] at h; exact absurd h (by decide)
        · rw [if_neg h3] at h; exact absurd h (by decide)
    · rw [if_neg h1] at h; exact absurd h h1
  obtain ⟨e1, e2, h8⟩ := e1
  have hf : ∀ x, x ≠ 1 + 1 + 1 → x ≠ 1 + 1 + 2 → x ≠ 1 + 1 + 3 → x ≠ 1 + 8 + (1 + N) → x ≠ 1 → m_X0_welcome J 1 (nI (pl a b)) c0 d N x = J x := by
    intro x g1 g2 g3 g4 g5
    simp only [m_X0_welcome]
    rw [if_pos h8]
    split
    · rw [wr_n _ _ _ g5, wr_n _ _ _ g4, wr_n _ _ _ g4, wr_n _ _ _ g4]; exact put_o ⟨g1, g2, g3⟩
    · rw [wr_n _ _ _ g5, wr_n _ _ _ g4, wr_n _ _ _ g4, wr_n _ _ _ g4]
  have hN8 : N < 8 := (nI_ltI (by omega) (by decide)).mp h8
  refine ⟨?_, FX.rfe ?_ ?_ ?_⟩
  · rw [e2]
    simp only [f_X0_welcome]
    rw [if_pos h8]
    split <;> rw [Nat.add_sub_cancel]
  · rw [e1]; simp only [mZ_come]; rw [if_pos h0]
  · rw [e1]; exact hR.eqA (fun x g1 g2 => hf x (by omega) (by omega) (by omega) (by omega) (by omega))
  · rw [e1]; exact hR2.eqA (fun x g1 g2 => hf x (by omega) (by omega) (by omega) (by omega) (by omega))
theorem k_order (hN : N ≤ 8) (hR : RX 1 J) (hR2 : RX 26 J) (h : th_X5_order J 0 a b c0 N = 0) : FX 0 (orderM J 0 a b c0) (mZ_order J 1 N a b c0) := by
  have h0 : thZ_order J 1 N a b c0 = 0 := h
  have hm : th_X5_member 0 a N = 0 := by
    simp only [th_X5_order] at h
    by_cases g : th_X5_member 0 a N = 0
    · exact g
    · rw [if_neg g] at h; exact absurd h g
  have hj := (mb_c hN hm).2.1
  refine FX.rfe ?_ ?_ ?_
  · simp only [mZ_order]; rw [if_pos h0]; rfl
  · exact hR.eqA (fun x g1 g2 => addO_fr _ _ (by omega) (by omega))
  · exact hR2.eqA (fun x g1 g2 => addO_fr _ _ (by omega) (by omega))
theorem k_call (hN : N ≤ 8) (hR : RX 1 J) (hR2 : RX 26 J) (h : th_X5_call J 0 a N = 0) : FX 0 (wr J (0 + 1 + 8 + (1 + a.toNatClampNeg)) 7 (nI 0)) (if th_X5_member 0 a N = 0 then wr J (1 + 8 + (1 + a.toNatClampNeg)) 7 (nI 0) else J) := by
  rw [e_call] at h
  have hj := (mb_c hN h).2.1
  refine FX.rfe ?_ ?_ ?_
  · rw [if_pos h]
  · exact hR.eqA (fun x g1 g2 => wr_n _ _ _ (by omega))
  · exact hR2.eqA (fun x g1 g2 => wr_n _ _ _ (by omega))
end LAWC

