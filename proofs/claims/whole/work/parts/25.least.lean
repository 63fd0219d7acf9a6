/-- sums of the ways from a cell -/
def pc (hd : Nat → Nat) (fr : Nat) : Nat → Nat → Nat → Prop
  | 0, c, v => c = fr ∧ hd c ≠ 10 ∧ v = hd c
  | d + 1, c, v => pc hd fr d c v ∨ (hd c ≠ 10 ∧ ∃ p w v', p < 256 ∧ w < 4 ∧ nb p w = c ∧ pc hd fr d p v' ∧ v = v' + hd c)
def DSr (hd : Nat → Nat) (fr to : Nat) (r : Int32) : Prop := (r = -1 ∧ ∀ d v, ¬ pc hd fr d to v) ∨ (∃ v, v < 2 ^ 31 ∧ r = nI v ∧ (∃ d, pc hd fr d to v) ∧ ∀ d v', pc hd fr d to v' → v ≤ v')
def insQ (q : Nat → Nat) (sl c : Nat) : Nat → Nat := fun j => if j < sl then q j else if j = sl then c else q (j - 1)
def insS (S : Nat → Nat) (c s : Nat) : Nat → Nat := fun x => if x = c then s else S x
theorem DQ_new {I u : Mm} {k n : Nat} {q S : Nat → Nat} {c sl s : Nat} (h : DQ I k n q S) (hc : c < 256) (hm : I (k + 1) c = -1) (hn : n < 256) (hsl : sl ≤ n) (hlo : ∀ j, j < sl → S (q j) ≤ s) (hgt : ∀ j, sl ≤ j → j < n → s < S (q j)) (hs : s ≤ 10 * (n + 1))
    (hu : u = wr (wr (wrA I (k + 2) (fun j => if j < sl then I (k + 2) j else if j = sl then nI c else if j ≤ n then I (k + 2) (j - 1) else I (k + 2) j)) (k + 1) c (nI s)) k 2 (nI (n + 1))) : DQ u k (n + 1) (insQ q sl c) (insS S c s) ∧ (∀ j, j < n → q j ≠ c) := by
  obtain ⟨a1, a2, a3, a4, a5, a6⟩ := h
  have hd : ∀ j, j < n → q j ≠ c := fun j hj e => by
    have := (a3 j hj).2.2.1
    rw [e, hm] at this
    exact nI_m1 (by have h9 := (a3 j hj).2.2.2; rw [e] at h9; omega) this.symm
  have U1c : u (k + 1) c = nI s := by rw [hu, wr_n _ _ _ (by omega), wr_ss]
  have U1 : ∀ x, x ≠ c → u (k + 1) x = I (k + 1) x := fun x hx => by rw [hu, wr_n _ _ _ (by omega), wr_sn _ _ _ hx, wrA_n _ _ (by omega)]
  have U2 : ∀ j, u (k + 2) j = if j < sl then I (k + 2) j else if j = sl then nI c else if j ≤ n then I (k + 2) (j - 1) else I (k + 2) j := fun j => by rw [hu, wr_n _ _ _ (by omega), wr_n _ _ _ (by omega), wrA_s]
  have Sc : insS S c s c = s := if_pos rfl
  have Sn : ∀ x, x ≠ c → insS S c s x = S x := fun x hx => if_neg hx
  have q1 : ∀ j, j < sl → insQ q sl c j = q j := fun j hj => if_pos hj
  have q2 : insQ q sl c sl = c := by simp [insQ]
  have q3 : ∀ j, sl < j → insQ q sl c j = q (j - 1) := fun j hj => by simp only [insQ]; rw [if_neg (by omega), if_neg (by omega)]
  refine ⟨⟨by omega, by rw [hu]; exact wr_ss _ _ _ _, fun j hj => ?_, fun x hx hxm => ?_, ?_, fun i j hij hj => ?_⟩, hd⟩
  · rcases Nat.lt_trichotomy j sl with z | z | z
    · have := a3 j (by omega)
      rw [q1 j z, U2, if_pos z, U1 _ (hd j (by omega)), Sn _ (hd j (by omega))]
      exact ⟨this.1, this.2.1, this.2.2.1, by omega⟩
    · subst z
      rw [q2, U2, if_neg (by omega), if_pos rfl, U1c, Sc]
      exact ⟨hc, rfl, rfl, hs⟩
    · have := a3 (j - 1) (by omega)
      rw [q3 j z, U2, if_neg (by omega), if_neg (by omega), if_pos (by omega), U1 _ (hd _ (by omega)), Sn _ (hd _ (by omega))]
      exact ⟨this.1, this.2.1, this.2.2.1, by omega⟩
  · by_cases e : x = c
    · exact ⟨sl, by omega, by rw [q2, e]⟩
    · rw [U1 x e] at hxm
      obtain ⟨j, g1, g2⟩ := a4 x hx hxm
      rcases Nat.lt_or_ge j sl with z | z
      · exact ⟨j, by omega, by rw [q1 j z, g2]⟩
      · exact ⟨j + 1, by omega, by rw [q3 _ (by omega), Nat.add_sub_cancel, g2]⟩
  · rw [cn_set (p := fun c => decide (I (k + 1) c ≠ -1)) (c := c) (decide_eq_false (fun z => z hm)) (decide_eq_true (by rw [U1c]; exact nI_m1 (by omega))) (fun j hj => by rw [U1 j hj]) hc, a5]
  · have val : ∀ j, j < n + 1 → insS S c s (insQ q sl c j) = if j < sl then S (q j) else if j = sl then s else S (q (j - 1)) := fun j hj => by
      rcases Nat.lt_trichotomy j sl with z | z | z
      · rw [q1 j z, if_pos z, Sn _ (hd j (by omega))]
      · subst z; rw [q2, if_neg (by omega), if_pos rfl, Sc]
      · rw [q3 j z, if_neg (by omega), if_neg (by omega), Sn _ (hd _ (by omega))]
    rw [val i (by omega), val j hj]
    rcases Nat.lt_trichotomy j sl with z | z | z
    · rw [if_pos (by omega), if_pos z]; exact a6 i j hij (by omega)
    · subst z
      rw [if_neg (show ¬ j < j from by omega), if_pos rfl]
      by_cases e : i < j
      · rw [if_pos e]; exact hlo i e
      · rw [if_neg e, if_pos (by omega)]; exact Nat.le_refl _
    · rw [if_neg (show ¬ j < sl from by omega), if_neg (show ¬ j = sl from by omega)]
      rcases Nat.lt_trichotomy i sl with y | y | y
      · rw [if_pos y]; exact a6 i (j - 1) (by omega) (by omega)
      · rw [if_neg (by omega), if_pos y]; exact Nat.le_of_lt (hgt (j - 1) (by omega) (by omega))
      · rw [if_neg (by omega), if_neg (by omega)]; exact a6 (i - 1) (j - 1) (by omega) (by omega)
/-- leastSum at the w-th direction of the i-th cell -/
def LeS (I : Mm) (k t : Nat) (hd : Nat → Nat) (fr i n : Nat) (q S : Nat → Nat) (w : Nat) (u : Mm) : Prop :=
  (DQ u k n q S ∧ i ≤ n ∧ (∀ a, a ≠ k → a ≠ k + 1 → a ≠ k + 2 → u a = I a)) ∧ (∀ j, j < n → ∃ d, pc hd fr d (q j) (S (q j))) ∧ (hd fr ≠ 10 → ∃ j, j < n ∧ q j = fr ∧ S fr ≤ hd fr) ∧ (∀ j, j < n → i < n → S (q j) ≤ S (q i) + hd (q j)) ∧
  (∀ i', i' < i → ∀ w', w' < 4 → nb (q i') w' < 256 → hd (nb (q i') w') ≠ 10 → ∃ j, j < n ∧ q j = nb (q i') w' ∧ S (nb (q i') w') ≤ S (q i') + hd (nb (q i') w')) ∧
  (i < n → ∀ w', w' < w → nb (q i) w' < 256 → hd (nb (q i) w') ≠ 10 → ∃ j, j < n ∧ q j = nb (q i) w' ∧ S (nb (q i) w') ≤ S (q i) + hd (nb (q i) w'))
theorem ls_init {I u v : Mm} {k t : Nat} {hd : Nat → Nat} {fr : Nat} {q S : Nat → Nat} (hfr : fr < 256) (hh : hd fr ≤ 10) (h0 : DQ v k 0 q S) (hv : ∀ a, a ≠ k → a ≠ k + 1 → a ≠ k + 2 → v a = I a) (he : EN v k t 0 q S hd (nI fr) 0 u) : ∃ n2 q2 S2, LeS I k t hd fr 0 n2 q2 S2 0 u := by
  have hnone : ∀ c, c < 256 → v (k + 1) c = -1 := fun c hc => Classical.byContradiction (fun y => by
    obtain ⟨j, g, _⟩ := h0.2.2.2.1 c hc y
    exact absurd g (Nat.not_lt_zero _))
  rcases he with ⟨e, hno⟩ | ⟨c, sl, g1, g2, g3, g4, g5, g6, g7, g8, e⟩
  · subst e
    refine ⟨0, q, S, ⟨h0, Nat.le_refl _, hv⟩, fun j hj => absurd hj (Nat.not_lt_zero _), fun hf => absurd ⟨fr, hfr, rfl, hf, hnone fr hfr⟩ hno, fun j hj => absurd hj (Nat.not_lt_zero _), fun i hi => absurd hi (Nat.not_lt_zero _), fun hi => absurd hi (Nat.lt_irrefl _)⟩
  · have ec : fr = c := (nI_eq (by omega) (by omega)).mp g2
    subst ec
    have hsl : sl = 0 := by omega
    subst hsl
    obtain ⟨hD, _⟩ := DQ_new h0 g1 g4 g5 g6 g7 g8 (by omega) e
    have q0 : insQ q 0 fr 0 = fr := by simp [insQ]
    have s0 : insS S fr (0 + hd fr) fr = hd fr := by simp [insS]
    refine ⟨1, insQ q 0 fr, insS S fr (0 + hd fr), ⟨hD, by omega, fun a h1 h2 h3 => ?_⟩, fun j hj => ?_, fun _ => ⟨0, by omega, q0, by rw [s0]; exact Nat.le_refl _⟩, fun j hj _ => ?_, fun i hi => absurd hi (Nat.not_lt_zero _), fun _ w hw => absurd hw (Nat.not_lt_zero _)⟩
    · rw [e, wr_n _ _ _ h1, wr_n _ _ _ h2, wrA_n _ _ h3]; exact hv a h1 h2 h3
    · have : j = 0 := by omega
      subst this
      rw [q0, s0]
      exact ⟨0, rfl, g3, rfl⟩
    · have : j = 0 := by omega
      subst this
      omega
theorem ls_enter {I u v : Mm} {k t : Nat} {hd : Nat → Nat} {fr i n w : Nat} {q S : Nat → Nat} {a : Int32} (h : LeS I k t hd fr i n q S w v) (hi : i < n) (hw : w < 4) (hh : ∀ c, c < 256 → hd c ≤ 10) (ha : a = if nb (q i) w < 256 then nI (nb (q i) w) else -1) (he : EN v k t n q S hd a (S (q i)) u) : ∃ n2 q2 S2, i < n2 ∧ q2 i = q i ∧ S2 (q i) = S (q i) ∧ LeS I k t hd fr i n2 q2 S2 (w + 1) u := by
  obtain ⟨⟨a1, a2, a3⟩, b, c0, d, e5, e6⟩ := id h
  rcases he with ⟨e, hno⟩ | ⟨c, sl, g1, g2, g3, g4, g5, g6, g7, g8, e⟩
  · subst e
    refine ⟨n, q, S, hi, rfl, rfl, ⟨a1, a2, a3⟩, b, c0, d, e5, fun h1 w' hw' hb hc => ?_⟩
    rcases Nat.lt_or_ge w' w with z | z
    · exact e6 h1 w' z hb hc
    · have ew : w' = w := by omega
      subst ew
      rw [if_pos hb] at ha
      have hm : u (k + 1) (nb (q i) w') ≠ -1 := fun y => hno ⟨_, hb, ha, hc, y⟩
      obtain ⟨j, f1, f2⟩ := a1.2.2.2.1 _ hb hm
      exact ⟨j, f1, f2, by rw [← f2]; exact d j f1 h1⟩
  · have hb : nb (q i) w < 256 := Classical.byContradiction (fun y => by
      rw [if_neg y] at ha
      exact nI_m1 (show c < 2 ^ 31 from by omega) (by rw [← g2]; exact ha))
    rw [if_pos hb] at ha
    have ec : nb (q i) w = c := (nI_eq (by omega) (by omega)).mp (ha.symm.trans g2)
    have hbnd := (a1.2.2.1 i hi).2.2.2
    obtain ⟨hD, hne⟩ := DQ_new a1 g1 g4 g5 g6 g7 g8 (by have := hh c g1; omega) e
    have hisl : i < sl := Nat.lt_of_not_le (fun y => by have := g8 i y hi; omega)
    have qi : insQ q sl c i = q i := if_pos hisl
    have Sn : ∀ x, x ≠ c → insS S c (S (q i) + hd c) x = S x := fun x hx => if_neg hx
    have Sc : insS S c (S (q i) + hd c) c = S (q i) + hd c := if_pos rfl
    have q2 : insQ q sl c sl = c := by simp [insQ]
    have emb : ∀ j, j < n → ∃ j2, j2 < n + 1 ∧ insQ q sl c j2 = q j := fun j hj => by
      rcases Nat.lt_or_ge j sl with z | z
      · exact ⟨j, by omega, if_pos z⟩
      · exact ⟨j + 1, by omega, by simp only [insQ]; rw [if_neg (by omega), if_neg (by omega), Nat.add_sub_cancel]⟩
    have inv : ∀ j, j < n + 1 → insQ q sl c j = c ∨ ∃ j2, j2 < n ∧ insQ q sl c j = q j2 := fun j hj => by
      rcases Nat.lt_trichotomy j sl with z | z | z
      · exact Or.inr ⟨j, by omega, if_pos z⟩
      · subst z; exact Or.inl q2
      · exact Or.inr ⟨j - 1, by omega, by simp only [insQ]; rw [if_neg (by omega), if_neg (by omega)]⟩
    refine ⟨n + 1, insQ q sl c, insS S c (S (q i) + hd c), by omega, qi, Sn _ (hne i hi), ⟨hD, by omega, fun x h1 h2 h3 => ?_⟩, fun j hj => ?_, fun hf => ?_, fun j hj _ => ?_, fun i' hi' w' hw' hb' hc' => ?_, fun _ w' hw' hb' hc' => ?_⟩
    · rw [e, wr_n _ _ _ h1, wr_n _ _ _ h2, wrA_n _ _ h3]; exact a3 x h1 h2 h3
    · rcases inv j hj with y | ⟨j2, y1, y2⟩
      · rw [y, Sc]
        obtain ⟨dd, hp⟩ := b i hi
        exact ⟨dd + 1, Or.inr ⟨g3, q i, w, _, (a1.2.2.1 i hi).1, hw, ec, hp, rfl⟩⟩
      · rw [y2, Sn _ (hne j2 y1)]; exact b j2 y1
    · obtain ⟨j, f1, f2, f3⟩ := c0 hf
      obtain ⟨j2, y1, y2⟩ := emb j f1
      exact ⟨j2, y1, y2.trans f2, by rw [Sn _ (by rw [← f2]; exact hne j f1)]; exact f3⟩
    · rw [qi, Sn _ (hne i hi)]
      rcases inv j hj with y | ⟨j2, y1, y2⟩
      · rw [y, Sc]; exact Nat.le_refl _
      · rw [y2, Sn _ (hne j2 y1)]; exact d j2 y1 hi
    · have qi' : insQ q sl c i' = q i' := if_pos (by omega)
      rw [qi'] at hb' hc' ⊢
      obtain ⟨j, f1, f2, f3⟩ := e5 i' hi' w' hw' hb' hc'
      obtain ⟨j2, y1, y2⟩ := emb j f1
      exact ⟨j2, y1, y2.trans f2, by rw [Sn (nb (q i') w') (by rw [← f2]; exact hne j f1), Sn _ (hne i' (by omega))]; exact f3⟩
    · rw [qi] at hb' hc' ⊢
      rw [Sn (q i) (hne i hi)]
      rcases Nat.lt_or_ge w' w with z | z
      · obtain ⟨j, f1, f2, f3⟩ := e6 hi w' z hb' hc'
        obtain ⟨j2, y1, y2⟩ := emb j f1
        exact ⟨j2, y1, y2.trans f2, by rw [Sn (nb (q i) w') (by rw [← f2]; exact hne j f1)]; exact f3⟩
      · have ew : w' = w := by omega
        subst ew
        exact ⟨sl, by omega, by rw [q2, ec], by rw [ec, Sc]; exact Nat.le_refl _⟩
theorem ls_next {I u : Mm} {k t : Nat} {hd : Nat → Nat} {fr i n : Nat} {q S : Nat → Nat} (h : LeS I k t hd fr i n q S 4 u) (hi : i < n) : LeS I k t hd fr (i + 1) n q S 0 u := by
  obtain ⟨⟨a1, a2, a3⟩, b, c0, d, e5, e6⟩ := h
  refine ⟨⟨a1, by omega, a3⟩, b, c0, fun j hj h1 => ?_, fun i' hi' => ?_, fun _ w hw => absurd hw (Nat.not_lt_zero _)⟩
  · have := d j hj hi
    have := a1.2.2.2.2.2 i (i + 1) (by omega) h1
    omega
  · rcases Nat.lt_or_ge i' i with z | z
    · exact e5 i' z
    · have : i' = i := by omega
      subst this
      exact e6 hi
theorem ls_fin {I u : Mm} {k t : Nat} {hd : Nat → Nat} {fr n to : Nat} {q S : Nat → Nat} {w : Nat} (h : LeS I k t hd fr n n q S w u) (hto : to < 256) : DSr hd fr to (u (k + 1) to) := by
  obtain ⟨⟨a1, a2, a3⟩, b, c0, d, e5, e6⟩ := h
  have key : ∀ (d c v : Nat), c < 256 → pc hd fr d c v → ∃ j, j < n ∧ q j = c ∧ S c ≤ v := by
    intro d
    induction d with
    | zero =>
      intro c v hc hp
      obtain ⟨h1, h2, h3⟩ := hp
      subst h1
      obtain ⟨j, f1, f2, f3⟩ := c0 h2
      exact ⟨j, f1, f2, by rw [h3]; exact f3⟩
    | succ d ih =>
      intro c v hc hp
      rcases hp with hp | ⟨h1, p, w', v', h2, h3, h4, h5, h6⟩
      · exact ih c v hc hp
      · obtain ⟨i', f1, f2, f3⟩ := ih p v' h2 h5
        subst f2
        obtain ⟨j, y1, y2, y3⟩ := e5 i' f1 w' h3 (by omega) (by rw [h4]; exact h1)
        rw [h4] at y2 y3
        exact ⟨j, y1, y2, by omega⟩
  by_cases hm : u (k + 1) to = -1
  · refine Or.inl ⟨hm, fun d v hp => ?_⟩
    obtain ⟨j, f1, f2, _⟩ := key d to v hto hp
    have := (a1.2.2.1 j f1).2.2.1
    rw [f2, hm] at this
    exact nI_m1 (by have := (a1.2.2.1 j f1).2.2.2; have := a1.1; rw [f2] at *; omega) this.symm
  · obtain ⟨j, f1, f2⟩ := a1.2.2.2.1 to hto hm
    have hj := a1.2.2.1 j f1
    rw [f2] at hj
    have hs := b j f1
    rw [f2] at hs
    have := a1.1
    exact Or.inr ⟨S to, by omega, hj.2.2.1, hs, fun d v' hp => (key d to v' hto hp).elim fun j2 y => y.2.2⟩
theorem fill_DQ {I : Mm} {k : Nat} (q S : Nat → Nat) : DQ (wr (wrA I (k + 1) (fun j => if j < 256 then -1 else I (k + 1) j)) k 2 (nI 0)) k 0 q S := by
  have hm : ∀ c, c < 256 → wr (wrA I (k + 1) (fun j => if j < 256 then -1 else I (k + 1) j)) k 2 (nI 0) (k + 1) c = -1 := fun c hc => by
    rw [wr_n _ _ _ (by omega), wrA_s, if_pos hc]
  exact ⟨by omega, wr_ss _ _ _ _, fun j hj => absurd hj (Nat.not_lt_zero _), fun c hc hx => absurd (hm c hc) hx, cn_all (fun c hc => decide_eq_false (fun z => z (hm c hc))), fun _ _ _ hj => absurd hj (Nat.not_lt_zero _)⟩

theorem hd_eq {I u : Mm} {k t : Nat} {hd : Nat → Nat} (hh : Hd I t hd) (h : ∀ a, a ≠ k → a ≠ k + 1 → a ≠ k + 2 → u a = I a) (hkt : t + 1 ≠ k ∧ t + 1 ≠ k + 1 ∧ t + 1 ≠ k + 2) : Hd u t hd := fun c hc => by
  rw [h _ hkt.1 hkt.2.1 hkt.2.2]; exact hh c hc

set_option maxHeartbeats 4000000 in
set_option maxRecDepth 100000 in
theorem c_X2_leastSum (l : Launch) (D : va_G) (cs : Nat → ClassId) (ad : Nat → Nat) (I : Mm) (sz : Nat) (k : Nat) (hk : kC.getD k 0 = 7) (t : Nat) (ht : kC.getD t 0 = 3) (fr : Nat) (to : Nat) (hd : Nat → Nat) (hh : Hd I t hd) (hkt : t + 1 ≠ k ∧ t + 1 ≠ k + 1 ∧ t + 1 ≠ k + 2) (hfr : fr < 256) (hto : to < 256) : MetI l yX2_leastSum wsX2_leastSum ({ frames := 2, cells := 0, slots := 0, locals := 47 }) kC cs D ad I sz [.ref (ad k), .ref (ad t), .int (nI fr), .int (nI to)] (fun r u => (∀ a, a ≠ k → a ≠ k + 1 → a ≠ k + 2 → u a = I a) ∧ DSr hd fr to r) 0 0 := by
  refine g_met (cc := cX2_leastSum) (maxL := 7) (ret := (some .int)) (by decide) rfl (Nat.le_of_ble_eq_true rfl) ?_
  intro pg e s m args below meth c ls hx hb hr hml hts hown hlocks hsz hP hD hK hN hS hA hl
  have hown : s.vm.findClass RX2 = some m.cls := hown
  have hl : lv_has ls 7 [(0, .ref (ad k)), (1, .ref (ad t)), (2, .int (nI fr)), (3, .int (nI to))] := hl
  refine lv_aload_n hx hb dX2_leastSum_0 rfl (lv_at hl 0 rfl) ?_
  refine g_get (κ := 7) (ci := 2) (v := .ref (ad (k + 1))) (C := RX2) (T := TX2) (N := 3) hx hb hts hown hK hP (k := k) hk (by decide) rfl (fun _ h => List.mem_cons_of_mem _ (List.mem_append_left _ (List.mem_append_right _ h))) rfl 0 (by decide) (hts _ (List.mem_of_getElem? (i := 1) rfl)) (fun _ h9 => h9) rfl dX2_leastSum_1 ?_
  refine lv_iconst (v := -1) hx hb dX2_leastSum_4 (by decide) ?_
  refine g_callM (M := wrA I (k + 1) (fun j => if j < 256 then (-1) else I (k + 1) j)) hD hS hA (va_runS (As := [.ref (ad (k + 1)), .int (-1)]) (rest := []) ⟨hx, hb, hml, hown, hts⟩ (c_J7_fill_53178 l D cs ad I s.heap.size (k + 1) (kd_7_0 hk) (-1)) (va_cwS 2 hts gX2_leastSum_J7_fill_53178 rfl rfl rfl (by decide +kernel) ⟨Nat.le_of_ble_eq_true rfl, Nat.le_of_ble_eq_true rfl⟩) (g_preS hP hD hK hN) rfl rfl hl.1 rfl (lv_room (Nat.le_of_ble_eq_true rfl)) dX2_leastSum_5 ⟨Nat.le_of_ble_eq_true rfl, Nat.le_of_ble_eq_true rfl⟩) (fun u1 H locs hu1 hP hD hS => ?_)
  refine lv_aload_n hx hb dX2_leastSum_8 rfl (lv_at hl 0 rfl) ?_
  refine lv_iconst (v := nI 0) hx hb dX2_leastSum_9 (by decide) ?_
  refine g_put (κ := 7) (ci := 2) (v := nI 0) (ty := .int) (C := RX2) (T := TX2) (N := 3) hx hb hts hown hK hP hD hS (k := k) hk (by decide) rfl (fun _ h => List.mem_cons_of_mem _ (List.mem_append_left _ (List.mem_append_right _ h))) tyX2 tyX2_ok nmX2 rfl 2 (by decide) (hts _ (List.mem_of_getElem? (i := 2) rfl)) (fun _ h9 => h9) rfl (by decide +kernel) rfl rfl (Nat.le_of_ble_eq_true rfl) rfl dX2_leastSum_10 (fun u2 H locs hu2 hP hD hS => ?_)
  have hdq0 : DQ u2 k 0 (fun _ => 0) (fun _ => 0) := by rw [hu2, hu1]; exact fill_DQ _ _
  have hv0 : ∀ a, a ≠ k → a ≠ k + 1 → a ≠ k + 2 → u2 a = I a := fun a9 h1 h2 h3 => by rw [hu2, wr_n _ _ _ h1, hu1, wrA_n _ _ h2]
  have hhd0 := hd_eq hh hv0 hkt
  refine lv_aload_n hx hb dX2_leastSum_13 rfl (lv_at hl 0 rfl) ?_
  refine lv_aload_n hx hb dX2_leastSum_14 rfl (lv_at hl 1 rfl) ?_
  refine lv_iload_n hx hb dX2_leastSum_15 rfl (lv_at hl 2 rfl) ?_
  refine lv_iconst (v := nI 0) hx hb dX2_leastSum_16 (by decide) ?_
  refine g_callv hD hS hA (va_runV (As := [.ref (ad t), .int (nI fr), .int (nI 0)]) (rest := []) ⟨hx, hb, hml, hown, hts⟩ (c_X2_enter l D cs ad u2 H.size k hk t ht (nI fr) 0 0 (fun _ => 0) (fun _ => 0) hd hdq0 hhd0 (by omega)) (cwV 3 hts gX2_leastSum_X2_enter rfl rfl rfl (by decide +kernel) ⟨Nat.le_of_ble_eq_true rfl, Nat.le_of_ble_eq_true rfl⟩) (g_preV hP hD hK hN (k := k) hk (by decide) rfl rfl rfl rfl) rfl rfl hl.1 rfl (lv_room (Nat.le_of_ble_eq_true rfl)) dX2_leastSum_17 ⟨Nat.le_of_ble_eq_true rfl, Nat.le_of_ble_eq_true rfl⟩) (fun u3 H locs hu3 hP hD hS => ?_)
  obtain ⟨n0, q0, S0, hls0⟩ := ls_init (I := I) hfr (hh fr hfr).1 hdq0 hv0 hu3
  refine lv_iconst (v := nI 0) hx hb dX2_leastSum_20 (by decide) ?_
  refine lv_istore (lv' := [(4, .int (nI 0)), (0, .ref (ad k)), (1, .ref (ad t)), (2, .int (nI fr)), (3, .int (nI to))]) hx hb dX2_leastSum_21 hl (by decide) rfl (fun ls hl => ?_)
  suffices KL23 : ∀ (fuel : Nat) (i : Nat) (n : Nat) (q : Nat → Nat) (S : Nat → Nat) (u : Mm) (H : Heap) (locs : List Loc) (ls : Array Slot), (LeS I k t hd fr i n q S 0 u) → 257 - i < fuel → va_P D vwCl (gw kC cs ad u) H → va_D (gA kC ad sz) (gw kC cs ad u) → va_S (gA kC ad sz) s.heap H locs → lv_has ls 7 [(4, .int (nI i)), (0, .ref (ad k)), (1, .ref (ad t)), (2, .int (nI fr)), (3, .int (nI to))] → W pg l e ({ frames := 2, cells := 0, slots := 0, locals := 47 }) s m args below meth c H locs 0 0 (MQ below (va_Qi (fun r u => (∀ a, a ≠ k → a ≠ k + 1 → a ≠ k + 2 → u a = I a) ∧ DSr hd fr to r) (wat kC cs D ad (gA kC ad sz)) (gA kC ad sz)) args s 0 0 (gA kC ad sz)) (F0 m 23 ls []) from KL23 _ 0 n0 q0 S0 u3 _ _ _ hls0 (Nat.lt_succ_self _) hP hD hS (lv_sub hl [0, 1, 2, 3, 4] rfl)
  intro fuel23
  induction fuel23 with
  | zero => intro _ _ _ _ _ _ _ _ _ hm; exact absurd hm (Nat.not_lt_zero _)
  | succ fuel23 ih23 =>
    intro i n q S u H locs ls hlo hm23 hP hD hS hl
    have hin := hlo.1.2.1
    have hn256 := hlo.1.1.1
    refine lv_iload hx hb dX2_leastSum_23 (lv_at hl 0 rfl) ?_
    refine lv_aload_n hx hb dX2_leastSum_25 rfl (lv_at hl 1 rfl) ?_
    refine g_get (κ := 7) (ci := 2) (v := .int (u k 2)) (C := RX2) (T := TX2) (N := 3) hx hb hts hown hK hP (k := k) hk (by decide) rfl (fun _ h => List.mem_cons_of_mem _ (List.mem_append_left _ (List.mem_append_right _ h))) rfl 2 (by decide) (hts _ (List.mem_of_getElem? (i := 2) rfl)) (fun _ h9 => h9) rfl dX2_leastSum_26 ?_
    rw [show u k 2 = nI n from hlo.1.1.2.1]
    refine lv_icmp_ge (tgt := 88) hx hb dX2_leastSum_29 (by decide) (fun c_4 => ?_) (fun c_4 => ?_)
    · skip
      have nc_4 : n ≤ i := (nI_leI (a := n) (b := i) (by omega) (by omega)).mp c_4
      refine lv_aload_n hx hb dX2_leastSum_88 rfl (lv_at hl 1 rfl) ?_
      refine lv_iload_n hx hb dX2_leastSum_89 rfl (lv_at hl 4 rfl) ?_
      refine g_callF (F := f_X2_sumTo u k (nI to)) hD hS hA (va_runV (As := [.int (nI to)]) (rest := []) ⟨hx, hb, hml, hown, hts⟩ (c_X2_sumTo l D cs ad u H.size k hk (nI to)) (cwV 1 hts gX2_leastSum_X2_sumTo rfl rfl rfl (by decide +kernel) ⟨Nat.le_of_ble_eq_true rfl, Nat.le_of_ble_eq_true rfl⟩) (g_preV hP hD hK hN (k := k) hk (by decide) rfl rfl rfl rfl) rfl rfl hl.1 rfl (lv_room (Nat.le_of_ble_eq_true rfl)) dX2_leastSum_90 ⟨Nat.le_of_ble_eq_true rfl, Nat.le_of_ble_eq_true rfl⟩) (fun H locs hP hD hS => ?_)
      exact g_iret (v := f_X2_sumTo u k (nI to)) hx hb hr hlocks rfl hP hD hS (by rw [show i = n from by omega] at hlo; exact ⟨hlo.1.2.2, by rw [sum_in hto]; exact ls_fin hlo hto⟩) dX2_leastSum_93
    · skip
      have nc_4 : ¬ n ≤ i := fun z9_ => c_4 ((nI_leI (a := n) (b := i) (by omega) (by omega)).mpr z9_)
      refine lv_iload hx hb dX2_leastSum_32 (lv_at hl 0 rfl) ?_
      refine lv_sipush (v := nI 256) hx hb dX2_leastSum_34 (by decide) ?_
      refine lv_icmp_ge (tgt := 88) hx hb dX2_leastSum_37 (by decide) (fun c_5 => ?_) (fun c_5 => ?_)
      · skip
        have nc_5 : 256 ≤ i := (nI_leI (a := 256) (b := i) (by omega) (by omega)).mp c_5
        exact absurd nc_5 (by omega)
      · skip
        have nc_5 : ¬ 256 ≤ i := fun z9_ => c_5 ((nI_leI (a := 256) (b := i) (by omega) (by omega)).mpr z9_)
        refine lv_aload_n hx hb dX2_leastSum_40 rfl (lv_at hl 1 rfl) ?_
        refine g_get (κ := 7) (ci := 2) (v := .ref (ad (k + 2))) (C := RX2) (T := TX2) (N := 3) hx hb hts hown hK hP (k := k) hk (by decide) rfl (fun _ h => List.mem_cons_of_mem _ (List.mem_append_left _ (List.mem_append_right _ h))) rfl 1 (by decide) (hts _ (List.mem_of_getElem? (i := 3) rfl)) (fun _ h9 => h9) rfl dX2_leastSum_41 ?_
        refine lv_iload hx hb dX2_leastSum_44 (lv_at hl 0 rfl) ?_
        refine g_ialdn (n := 256) (i := i) hx hb hK hP (k := (k + 2)) (kd_7_1 hk) (by decide) rfl (by omega) (by decide) dX2_leastSum_46 ?_
        rw [show u (k + 2) i = nI (q i) from (hlo.1.1.2.2.1 i (by omega)).2.1]
        have hqi := hlo.1.1.2.2.1 i (by omega)
        refine lv_istore (lv' := [(5, .int (nI (q i))), (4, .int (nI i)), (0, .ref (ad k)), (1, .ref (ad t)), (2, .int (nI fr)), (3, .int (nI to))]) hx hb dX2_leastSum_47 hl (by decide) rfl (fun ls hl => ?_)
        refine lv_iconst (v := nI 0) hx hb dX2_leastSum_49 (by decide) ?_
        refine lv_istore (lv' := [(6, .int (nI 0)), (5, .int (nI (q i))), (4, .int (nI i)), (0, .ref (ad k)), (1, .ref (ad t)), (2, .int (nI fr)), (3, .int (nI to))]) hx hb dX2_leastSum_50 hl (by decide) rfl (fun ls hl => ?_)
        suffices KL52 : ∀ (fuel : Nat) (w : Nat) (n2 : Nat) (q2 : Nat → Nat) (S2 : Nat → Nat) (v : Mm) (H : Heap) (locs : List Loc) (ls : Array Slot), (w ≤ 4) → (i < n2) → (q2 i = q i) → (S2 (q i) = S (q i)) → (LeS I k t hd fr i n2 q2 S2 w v) → 5 - w < fuel → va_P D vwCl (gw kC cs ad v) H → va_D (gA kC ad sz) (gw kC cs ad v) → va_S (gA kC ad sz) s.heap H locs → lv_has ls 7 [(6, .int (nI w)), (5, .int (nI (q i))), (4, .int (nI i)), (0, .ref (ad k)), (1, .ref (ad t)), (2, .int (nI fr)), (3, .int (nI to))] → W pg l e ({ frames := 2, cells := 0, slots := 0, locals := 47 }) s m args below meth c H locs 0 0 (MQ below (va_Qi (fun r u => (∀ a, a ≠ k → a ≠ k + 1 → a ≠ k + 2 → u a = I a) ∧ DSr hd fr to r) (wat kC cs D ad (gA kC ad sz)) (gA kC ad sz)) args s 0 0 (gA kC ad sz)) (F0 m 52 ls []) from KL52 _ 0 n q S u _ _ _ (by omega) (by omega) rfl rfl hlo (Nat.lt_succ_self _) hP hD hS (lv_sub hl [0, 1, 2, 3, 4, 5, 6] rfl)
        intro fuel52
        induction fuel52 with
        | zero => intro _ _ _ _ _ _ _ _ _ _ _ _ _ hm; exact absurd hm (Nat.not_lt_zero _)
        | succ fuel52 ih52 =>
          intro w n2 q2 S2 v H locs ls hw hn2 hq2 hS2 hls hm52 hP hD hS hl
          refine lv_iload hx hb dX2_leastSum_52 (lv_at hl 0 rfl) ?_
          refine lv_iconst (v := nI 4) hx hb dX2_leastSum_54 (by decide) ?_
          refine lv_icmp_ge (tgt := 82) hx hb dX2_leastSum_55 (by decide) (fun c_6 => ?_) (fun c_6 => ?_)
          · skip
            have nc_6 : 4 ≤ w := (nI_leI (a := 4) (b := w) (by omega) (by omega)).mp c_6
            refine lv_iinc (v := nI (i + 1)) (lv' := [(4, .int (nI (i + 1))), (6, .int (nI w)), (5, .int (nI (q i))), (0, .ref (ad k)), (1, .ref (ad t)), (2, .int (nI fr)), (3, .int (nI to))]) hx hb dX2_leastSum_82 hl (k := 2) rfl (nI_1 i) (by decide) rfl (fun ls hl => ?_)
            refine lv_goto (tgt := 23) hx hb dX2_leastSum_85 (by decide) ?_
            exact ih23 (i + 1) n2 q2 S2 v _ _ _ (by rw [show w = 4 from by omega] at hls; exact ls_next hls hn2) (by have := hls.1.1.1; omega) hP hD hS (lv_sub hl [0, 3, 4, 5, 6] rfl)
          · skip
            have nc_6 : ¬ 4 ≤ w := fun z9_ => c_6 ((nI_leI (a := 4) (b := w) (by omega) (by omega)).mpr z9_)
            refine lv_aload_n hx hb dX2_leastSum_58 rfl (lv_at hl 3 rfl) ?_
            refine lv_aload_n hx hb dX2_leastSum_59 rfl (lv_at hl 4 rfl) ?_
            refine lv_iload hx hb dX2_leastSum_60 (lv_at hl 1 rfl) ?_
            refine lv_iload hx hb dX2_leastSum_62 (lv_at hl 0 rfl) ?_
            refine g_callF (F := f_X5_beside (nI (q i)) (nI w)) hD hS hA (va_runSN (As := [.int (nI (q i)), .int (nI w)]) (rest := [.ref (ad t), .ref (ad k)]) ⟨hx, hb, hml, hown, hts⟩ (c_X5_beside l D cs ad v H.size (nI (q i)) (nI w)) ⟨va_cnB 2 hts gX2_leastSum_X5_beside_n32 rfl rfl rfl (nwv25 hN) (hts _ (List.mem_of_getElem? (i := 24) rfl)) (by decide +kernel) ⟨Nat.le_of_ble_eq_true rfl, Nat.le_of_ble_eq_true rfl⟩, (hts _ (List.mem_of_getElem? (i := 23) rfl)), trivial⟩ (g_preS hP hD hK hN) rfl rfl hl.1 rfl (lv_room (Nat.le_of_ble_eq_true rfl)) dX2_leastSum_64 ⟨Nat.le_of_ble_eq_true rfl, Nat.le_of_ble_eq_true rfl⟩) (fun H locs hP hD hS => ?_)
            refine lv_aload_n hx hb dX2_leastSum_67 rfl (lv_at hl 3 rfl) ?_
            refine lv_iload hx hb dX2_leastSum_68 (lv_at hl 1 rfl) ?_
            refine g_callF (F := f_X2_sumTo v k (nI (q i))) hD hS hA (va_runV (As := [.int (nI (q i))]) (rest := [.int (f_X5_beside (nI (q i)) (nI w)), .ref (ad t), .ref (ad k)]) ⟨hx, hb, hml, hown, hts⟩ (c_X2_sumTo l D cs ad v H.size k hk (nI (q i))) (cwV 1 hts gX2_leastSum_X2_sumTo rfl rfl rfl (by decide +kernel) ⟨Nat.le_of_ble_eq_true rfl, Nat.le_of_ble_eq_true rfl⟩) (g_preV hP hD hK hN (k := k) hk (by decide) rfl rfl rfl rfl) rfl rfl hl.1 rfl (lv_room (Nat.le_of_ble_eq_true rfl)) dX2_leastSum_70 ⟨Nat.le_of_ble_eq_true rfl, Nat.le_of_ble_eq_true rfl⟩) (fun H locs hP hD hS => ?_)
            rw [show f_X2_sumTo v k (nI (q i)) = nI (S (q i)) from (by rw [sum_in hqi.1, ← hS2, ← hq2]; exact (hls.1.1.2.2.1 i hn2).2.2.1)]
            refine g_callv hD hS hA (va_runV (As := [.ref (ad t), .int (f_X5_beside (nI (q i)) (nI w)), .int (nI (S (q i)))]) (rest := []) ⟨hx, hb, hml, hown, hts⟩ (c_X2_enter l D cs ad v H.size k hk t ht (f_X5_beside (nI (q i)) (nI w)) (S (q i)) n2 q2 S2 hd hls.1.1 (hd_eq hh hls.1.2.2 hkt) (by rw [← hS2, ← hq2]; exact (hls.1.1.2.2.1 i hn2).2.2.2)) (cwV 3 hts gX2_leastSum_X2_enter rfl rfl rfl (by decide +kernel) ⟨Nat.le_of_ble_eq_true rfl, Nat.le_of_ble_eq_true rfl⟩) (g_preV hP hD hK hN (k := k) hk (by decide) rfl rfl rfl rfl) rfl rfl hl.1 rfl (lv_room (Nat.le_of_ble_eq_true rfl)) dX2_leastSum_73 ⟨Nat.le_of_ble_eq_true rfl, Nat.le_of_ble_eq_true rfl⟩) (fun u7 H locs hu7 hP hD hS => ?_)
            obtain ⟨n3, q3, S3, g1, g2, g3, g4⟩ := ls_enter (a := f_X5_beside (nI (q i)) (nI w)) hls hn2 (show w < 4 from by omega) (fun c9 h9 => (hh c9 h9).1) (by rw [hq2]; exact bes_nb _ hqi.1 w (by omega)) (by rw [hq2, hS2]; exact hu7)
            refine lv_iinc (v := nI (w + 1)) (lv' := [(6, .int (nI (w + 1))), (5, .int (nI (q i))), (4, .int (nI i)), (0, .ref (ad k)), (1, .ref (ad t)), (2, .int (nI fr)), (3, .int (nI to))]) hx hb dX2_leastSum_76 hl (k := 0) rfl (nI_1 w) (by decide) rfl (fun ls hl => ?_)
            refine lv_goto (tgt := 52) hx hb dX2_leastSum_79 (by decide) ?_
            exact ih52 (w + 1) n3 q3 S3 u7 _ _ _ (by omega) g1 (g2.trans hq2) (by rw [← hq2]; exact (show S3 (q2 i) = S (q2 i) from g3.trans (by rw [hq2]; exact hS2))) g4 (by omega) hP hD hS (lv_sub hl [0, 1, 2, 3, 4, 5, 6] rfl)
