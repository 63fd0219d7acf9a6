/-- two mazes with the same words -/
def Sm (z : Nat) (J : Mm) (z' : Nat) (J' : Mm) : Prop := (∀ f, 3 ≤ f → f ≤ 6 → J' z' f = J z f) ∧ (∀ a, a < 3 → ∀ c, c < 256 → J' (z' + 1 + 1 + a) c = J (z + 1 + 1 + a) c) ∧ (∀ i, i < 8 → (∀ f, (f < 6 ∨ f = 7) → J' (z' + 8 + (1 + i)) f = J (z + 8 + (1 + i)) f) ∧ ∀ j, j < 24 → J' (z' + 8 + (1 + i) + 8) j = J (z + 8 + (1 + i) + 8) j)
section SM
variable {z z' k N : Nat} {J J' I : Mm}
theorem Sm.c1 (h : Sm z J z' J') {c : Nat} (hc : c < 256) : J' (z' + 1 + 1) c = J (z + 1 + 1) c := h.2.1 0 (by decide) c hc
theorem Sm.c2 (h : Sm z J z' J') {c : Nat} (hc : c < 256) : J' (z' + 1 + 2) c = J (z + 1 + 2) c := h.2.1 1 (by decide) c hc
theorem Sm.c3 (h : Sm z J z' J') {c : Nat} (hc : c < 256) : J' (z' + 1 + 3) c = J (z + 1 + 3) c := h.2.1 2 (by decide) c hc
theorem Sm.t (h : Sm z J z' J') {i f : Nat} (hi : i < 8) (hf : f < 6 ∨ f = 7) : J' (z' + 8 + (1 + i)) f = J (z + 8 + (1 + i)) f := (h.2.2 i hi).1 f hf
theorem Rl.sm (h : Rl z J k I N) (s : Sm z J z' J') (hN : N ≤ 8) : Rl z' J' k I N := by
  obtain ⟨a, b, c, d, e⟩ := h
  refine ⟨a, fun j hj q hq => (b j hj q hq).trans (s.2.1 j hj q hq).symm, fun i hi => ⟨fun f hf => ((c i hi).1 f hf).trans (s.t hi (Or.inl hf)).symm, (c i hi).2.1.trans (s.t hi (Or.inr rfl)).symm, fun j hj => ((c i hi).2.2 j hj).trans ((s.2.2 i hi).2 j hj).symm⟩, ⟨d.1.trans (s.1 4 (by decide) (by decide)).symm, d.2.1.trans (s.1 5 (by decide) (by decide)).symm, d.2.2.trans (s.1 6 (by decide) (by decide)).symm⟩, e.trans ?_⟩
  exact sm_cg N (fun i hi => (s.t (by omega) (Or.inl (by decide))).symm)
theorem WT.sm (h : WT J z N) (s : Sm z J z' J') : WT J' z' N := by
  obtain ⟨a, b, c, d, e⟩ := h
  refine ⟨(s.1 3 (by decide) (by decide)).trans a, b, fun i hi => ?_, fun i hi => ?_, fun i hi => ?_⟩
  · rw [s.t (by omega) (Or.inl (by decide))]; exact c i hi
  · rw [s.t hi (Or.inl (by decide))]; exact d i hi
  · rw [s.t (by omega) (Or.inr rfl)]; exact e i hi
theorem IV.sm (h : IV J z N) (s : Sm z J z' J') : IV J' z' N := by
  obtain ⟨a, b, c, d, e, g, q⟩ := h
  have hN := a.2.1
  refine ⟨a.sm s, fun x hx => by rw [s.c1 hx]; exact b x hx, fun x hx => by rw [s.c1 hx, s.c2 hx, s.c3 hx]; exact c x hx, fun x hx => by rw [s.c3 hx]; exact d x hx, fun i hi => ?_, fun i h1 h2 => ?_, fun i hi j hj => by rw [(s.2.2 i hi).2 j hj]; exact q i hi j hj⟩
  · rw [s.t (by omega) (Or.inl (by decide)), s.t (by omega) (Or.inl (by decide)), s.t (by omega) (Or.inl (by decide)), s.t (by omega) (Or.inl (by decide))]
    exact ⟨(e i hi).1, (e i hi).2.1, fun h4 p hp hpp => by rw [s.c1 hp]; exact (e i hi).2.2 h4 p hp hpp⟩
  · rw [s.t h2 (Or.inl (by decide)), s.t h2 (Or.inl (by decide)), s.t h2 (Or.inl (by decide)), s.t h2 (Or.inr rfl)]; exact g i h1 h2
theorem FX.sm {k0 : Nat} {u v : Mm} (h : FX k0 u v) : Sm (k0 + 1) v (k0 + 1) u :=
  ⟨fun f _ _ => by rw [h.1 (k0 + 1) (by omega) (by omega) (by omega) (by omega) (by omega)], fun a ha c _ => by rw [h.1 (k0 + 1 + 1 + 1 + a) (by omega) (by omega) (by omega) (by omega) (by omega)], fun i hi => ⟨fun f _ => by rw [h.1 (k0 + 1 + 8 + (1 + i)) (by omega) (by omega) (by omega) (by omega) (by omega)], fun j _ => by rw [h.1 (k0 + 1 + 8 + (1 + i) + 8) (by omega) (by omega) (by omega) (by omega) (by omega)]⟩⟩
theorem ahd_sm (J : Mm) (k0 : Nat) : Sm (k0 + 1) J (k0 + 26) (ahd J k0) := by
  have hz := @ahd_z J k0
  refine ⟨fun f h1 h2 => ?_, fun a ha c hc => ?_, fun i hi => ahd_t hi⟩
  · rcases (show f = 3 ∨ f = 4 ∨ f = 5 ∨ f = 6 from by omega) with rfl | rfl | rfl | rfl
    · exact hz.1
    · exact hz.2.1
    · exact hz.2.2.1
    · exact hz.2.2.2
  · have := ahd_s (I := J) (k := k0) (a := a) (j := c) ha hc
    exact this
end SM
