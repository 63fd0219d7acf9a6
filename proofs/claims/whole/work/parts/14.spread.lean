def nb (p w : Nat) : Nat := match w with
  | 0 => if 16 ≤ p then p - 16 else 256
  | 1 => if p % 16 < 15 then p + 1 else 256
  | 2 => if p < 240 then p + 16 else 256
  | _ => if 0 < p % 16 then p - 1 else 256
theorem bes_nb : ∀ p, p < 256 → ∀ w, w < 4 → f_X5_beside (nI p) (nI w) = if nb p w < 256 then nI (nb p w) else -1 := by decide +kernel
/-- cells to which one comes from the sources by so many steps over such cells -/
def rch (op src : Nat → Prop) : Nat → Nat → Prop
  | 0, c => src c
  | d + 1, c => rch op src d c ∨ (op c ∧ ∃ p w, p < 256 ∧ w < 4 ∧ nb p w = c ∧ rch op src d p)
theorem rch_up {op src : Nat → Prop} {d : Nat} {c : Nat} (h : rch op src d c) : rch op src (d + 1) c := Or.inl h
theorem rch_le {op src : Nat → Prop} {c : Nat} : ∀ {d e : Nat}, d ≤ e → rch op src d c → rch op src e c
  | d, 0, hl, h => by rw [show d = 0 from by omega] at h; exact h
  | d, e + 1, hl, h => by
    rcases Nat.lt_or_ge e d with a | a
    · rw [show d = e + 1 from by omega] at h; exact h
    · exact Or.inl (rch_le a h)
def opS (I : Mm) (t nx : Nat) (q0 : Nat → Nat) (c : Nat) : Prop := I (t + 1) c = 0 ∧ ∀ j, j < nx → q0 j ≠ c
def srS (nx n0 : Nat) (q0 : Nat → Nat) (c : Nat) : Prop := ∃ j, nx ≤ j ∧ j < n0 ∧ q0 j = c
/-- the state of a spread: the x-th of the queue is at its w-th direction -/
def SP (I : Mm) (k t mo nx n0 : Nat) (q0 : Nat → Nat) (x n : Nat) (q dv : Nat → Nat) (w : Nat) (u : Mm) : Prop :=
  (RQ u k n q ∧ u k 3 = nI x ∧ nx ≤ x ∧ x ≤ n ∧ n0 ≤ n ∧ nx ≤ n0) ∧
  ((∀ a, a ≠ k → a ≠ k + 1 → a ≠ k + 2 → u a = I a) ∧ (∀ j, j < n0 → q j = q0 j) ∧ (∀ j, j < nx → u (k + 1) (q0 j) = I (k + 1) (q0 j))) ∧
  (∀ j, nx ≤ j → j < n → u (k + 1) (q j) = nI (dv j) ∧ dv j ≤ j ∧ dv j ≤ mo ∧ rch (opS I t nx q0) (srS nx n0 q0) (dv j) (q j)) ∧
  (∀ j, nx ≤ j → j < n0 → dv j = 0) ∧ (∀ i j, nx ≤ i → i ≤ j → j < n → dv i ≤ dv j) ∧ (∀ j, nx ≤ j → j < n → x < n → dv j ≤ dv x + 1) ∧
  (∀ i, nx ≤ i → i < x → dv i < mo → ∀ w', w' < 4 → nb (q i) w' < 256 → I (t + 1) (nb (q i) w') = 0 → ∃ j, j < n ∧ q j = nb (q i) w' ∧ (nx ≤ j → dv j ≤ dv i + 1)) ∧
  (x < n → dv x < mo → ∀ w', w' < w → nb (q x) w' < 256 → I (t + 1) (nb (q x) w') = 0 → ∃ j, j < n ∧ q j = nb (q x) w' ∧ (nx ≤ j → dv j ≤ dv x + 1))
theorem nI_m1 {a : Nat} (h : a < 2 ^ 31) : nI a ≠ -1 := fun z => by
  have := congrArg Int32.toInt z
  rw [nI_toInt h] at this
  have e : (-1 : Int32).toInt = -1 := by decide
  omega
theorem sp_init {I : Mm} {k t mo nx n0 : Nat} {q0 : Nat → Nat} (h : RQ I k n0 q0) (h3 : I k 3 = nI nx) (hn : nx ≤ n0) (hs : ∀ j, nx ≤ j → j < n0 → I (k + 1) (q0 j) = nI 0) : SP I k t mo nx n0 q0 nx n0 q0 (fun _ => 0) 0 I :=
  ⟨⟨h, h3, Nat.le_refl _, hn, Nat.le_refl _, hn⟩, ⟨fun _ _ _ _ => rfl, fun _ _ => rfl, fun _ _ => rfl⟩, fun j h1 h2 => ⟨hs j h1 h2, Nat.zero_le _, Nat.zero_le _, j, h1, h2, rfl⟩, fun _ _ _ => rfl, fun _ _ _ _ _ => Nat.le_refl _, fun _ _ _ _ => Nat.zero_le _, fun i h1 h2 => absurd h2 (Nat.not_lt.mpr h1), fun _ _ w' hw => absurd hw (Nat.not_lt_zero _)⟩
theorem add_new {u : Mm} {k c n : Nat} {v : Int32} (hc : c < 256) (hm : u (k + 1) c = -1) (hn : n < 256) : m_X1_add u k (nI c) v n = wr (wr (wr u (k + 1) c v) (k + 2) n (nI c)) k 2 (nI (n + 1)) := by
  simp only [m_X1_add]
  rw [if_neg (nI_pos (by omega)), if_neg (fun z => absurd ((nI_leI (by decide) (by omega)).mp z) (by omega)), nI_clamp (by omega), if_pos hm, if_neg (fun z => absurd ((nI_leI (by decide) (by omega)).mp z) (by omega))]
theorem add_old {u : Mm} {k c n : Nat} {v : Int32} (hc : c < 256) (hm : u (k + 1) c ≠ -1) : m_X1_add u k (nI c) v n = u := by
  simp only [m_X1_add]
  rw [if_neg (nI_pos (by omega)), if_neg (fun z => absurd ((nI_leI (by decide) (by omega)).mp z) (by omega)), nI_clamp (by omega), if_neg hm]
theorem add_out {u : Mm} {k n : Nat} {v : Int32} : m_X1_add u k (-1) v n = u := by
  simp only [m_X1_add]
  rw [if_pos (by decide)]
/-- a cell more in the queue -/
theorem RQ_add {u : Mm} {k n c : Nat} {q : Nat → Nat} {v : Int32} (h : RQ u k n q) (hc : c < 256) (hm : u (k + 1) c = -1) (hv : v ≠ -1) : n < 256 ∧ RQ (m_X1_add u k (nI c) v n) k (n + 1) (fun j => if j = n then c else q j) ∧ (∀ j, j < n → q j ≠ c) := by
  obtain ⟨r1, r2, r3, r4, r5, r6, r7⟩ := h
  have hn : n < 256 := by
    have := cn_lt (p := fun c => decide (u (k + 1) c ≠ -1)) (c := c) (decide_eq_false (fun z => z hm)) hc
    omega
  have hd : ∀ j, j < n → q j ≠ c := fun j hj e => r5 j hj (by rw [e]; exact hm)
  refine ⟨hn, ?_, hd⟩
  rw [add_new hc hm hn]
  have U1 : ∀ j, j ≠ c → wr (wr (wr u (k + 1) c v) (k + 2) n (nI c)) k 2 (nI (n + 1)) (k + 1) j = u (k + 1) j := fun j hj => by
    rw [wr_n _ _ _ (by omega), wr_n _ _ _ (by omega), wr_sn _ _ _ hj]
  have U1c : wr (wr (wr u (k + 1) c v) (k + 2) n (nI c)) k 2 (nI (n + 1)) (k + 1) c = v := by
    rw [wr_n _ _ _ (by omega), wr_n _ _ _ (by omega), wr_ss]
  refine ⟨by omega, wr_ss _ _ _ _, fun j hj => ?_, fun j hj => ?_, fun j hj => ?_, fun j hj hx => ?_, ?_⟩
  · try dsimp only
    by_cases e : j = n
    · rw [if_pos e]; exact hc
    · rw [if_neg e]; exact r3 j (by omega)
  · try dsimp only
    rw [wr_n _ _ _ (by omega)]
    by_cases e : j = n
    · rw [e, if_pos rfl, wr_ss]
    · rw [if_neg e, wr_sn _ _ _ e, wr_n _ _ _ (by omega)]; exact r4 j (by omega)
  · try dsimp only
    by_cases e : j = n
    · rw [if_pos e, U1c]; exact hv
    · rw [if_neg e, U1 _ (hd j (by omega))]; exact r5 j (by omega)
  · by_cases e : j = c
    · exact ⟨n, by omega, by show (if n = n then c else q n) = j; rw [if_pos rfl, e]⟩
    · rw [U1 j e] at hx
      obtain ⟨i, h1, h2⟩ := r6 j hj hx
      exact ⟨i, by omega, by show (if i = n then c else q i) = j; rw [if_neg (by omega), h2]⟩
  · rw [cn_set (p := fun c => decide (u (k + 1) c ≠ -1)) (c := c) (decide_eq_false (fun z => z hm)) (decide_eq_true (by rw [U1c]; exact hv)) (fun j hj => by rw [U1 j hj]) hc, r7]
theorem sp_skip {I : Mm} {k t mo nx n0 : Nat} {q0 : Nat → Nat} {x n : Nat} {q dv : Nat → Nat} {w : Nat} {u : Mm} (h : SP I k t mo nx n0 q0 x n q dv w u) (hs : ¬ (nb (q x) w < 256 ∧ I (t + 1) (nb (q x) w) = 0)) : SP I k t mo nx n0 q0 x n q dv (w + 1) u := by
  obtain ⟨a1, a2, a3, a4, a5, a6, a7, a8⟩ := h
  refine ⟨a1, a2, a3, a4, a5, a6, a7, fun h1 h2 w' hw hb ho => ?_⟩
  rcases Nat.lt_or_ge w' w with z | z
  · exact a8 h1 h2 w' z hb ho
  · rw [show w' = w from by omega] at hb ho
    exact absurd ⟨hb, ho⟩ hs
theorem sp_add {I : Mm} {k t mo nx n0 : Nat} {q0 : Nat → Nat} {x n : Nat} {q dv : Nat → Nat} {w : Nat} {u : Mm} (h : SP I k t mo nx n0 q0 x n q dv w u) (hx : x < n) (hw4 : w < 4) (hmo : dv x < mo) (hmo2 : mo ≤ 256) (hb : nb (q x) w < 256) (ho : I (t + 1) (nb (q x) w) = 0) :
    ∃ (n2 : Nat) (q2 dv2 : Nat → Nat), x < n2 ∧ q2 x = q x ∧ dv2 x = dv x ∧ SP I k t mo nx n0 q0 x n2 q2 dv2 (w + 1) (m_X1_add u k (nI (nb (q x) w)) (nI (dv x + 1)) n) := by
  obtain ⟨⟨b1, b2, b3, b4, b5, b6⟩, ⟨c1, c2, c3⟩, a3, a4, a5, a6, a7, a8⟩ := id h
  by_cases hm : u (k + 1) (nb (q x) w) = -1
  · obtain ⟨hn, hR, hd⟩ := RQ_add (v := nI (dv x + 1)) b1 hb hm (nI_m1 (by omega))
    have e1 := add_new (v := nI (dv x + 1)) (n := n) hb hm hn
    have hxs := (a3 x b3 hx)
    refine ⟨n + 1, fun j => if j = n then nb (q x) w else q j, fun j => if j = n then dv x + 1 else dv j, by omega, if_neg (by omega), if_neg (by omega), ⟨hR, ?_, b3, by omega, by omega, b6⟩, ⟨?_, ?_, ?_⟩, ?_, ?_, ?_, ?_, ?_, ?_⟩
    · rw [e1, wr_sn _ _ _ (by omega), wr_n _ _ _ (by omega), wr_n _ _ _ (by omega)]; exact b2
    · intro a h1 h2 h3
      rw [e1, wr_n _ _ _ h1, wr_n _ _ _ h3, wr_n _ _ _ h2]; exact c1 a h1 h2 h3
    · intro j hj
      show (if j = n then nb (q x) w else q j) = q0 j
      rw [if_neg (by omega)]; exact c2 j hj
    · intro j hj
      rw [e1, wr_n _ _ _ (by omega), wr_n _ _ _ (by omega), wr_sn _ _ _ (by rw [← c2 j (by omega)]; exact hd j (by omega))]; exact c3 j hj
    · intro j h1 h2
      show m_X1_add u k (nI (nb (q x) w)) (nI (dv x + 1)) n (k + 1) (if j = n then nb (q x) w else q j) = nI (if j = n then dv x + 1 else dv j) ∧ (if j = n then dv x + 1 else dv j) ≤ j ∧ (if j = n then dv x + 1 else dv j) ≤ mo ∧ rch (opS I t nx q0) (srS nx n0 q0) (if j = n then dv x + 1 else dv j) (if j = n then nb (q x) w else q j)
      by_cases e : j = n
      · rw [if_pos e, if_pos e, e1, wr_n _ _ _ (by omega), wr_n _ _ _ (by omega), wr_ss]
        refine ⟨rfl, by omega, by omega, Or.inr ⟨⟨ho, fun i hi => ?_⟩, q x, w, b1.2.2.1 x hx, hw4, rfl, hxs.2.2.2⟩⟩
        rw [← c2 i (by omega)]; exact hd i (by omega)
      · rw [if_neg e, if_neg e, e1, wr_n _ _ _ (by omega), wr_n _ _ _ (by omega), wr_sn _ _ _ (hd j (by omega))]
        exact a3 j h1 (by omega)
    · intro j h1 h2
      show (if j = n then dv x + 1 else dv j) = 0
      rw [if_neg (by omega)]; exact a4 j h1 h2
    · intro i j h1 h2 h3
      show (if i = n then dv x + 1 else dv i) ≤ (if j = n then dv x + 1 else dv j)
      by_cases e : j = n
      · rw [if_pos e]
        by_cases e2 : i = n
        · rw [if_pos e2]; exact Nat.le_refl _
        · rw [if_neg e2]; exact a6 i h1 (by omega) hx
      · rw [if_neg e, if_neg (by omega)]; exact a5 i j h1 h2 (by omega)
    · intro j h1 h2 _
      show (if j = n then dv x + 1 else dv j) ≤ (if x = n then dv x + 1 else dv x) + 1
      rw [if_neg (show ¬ x = n from by omega)]
      by_cases e : j = n
      · rw [if_pos e]; exact Nat.le_refl _
      · rw [if_neg e]; exact a6 j h1 (by omega) hx
    · intro i h1 h2 h3 w' hw hb' ho'
      have ei : (if i = n then nb (q x) w else q i) = q i := if_neg (by omega)
      have ed : (if i = n then dv x + 1 else dv i) = dv i := if_neg (by omega)
      simp only [ei, ed] at h3 hb' ho' ⊢
      obtain ⟨j, g1, g2, g3⟩ := a7 i h1 h2 h3 w' hw hb' ho'
      exact ⟨j, by omega, by rw [if_neg (by omega)]; exact g2, fun z => by rw [if_neg (by omega)]; exact g3 z⟩
    · intro _ h3 w' hw hb' ho'
      have ei : (if x = n then nb (q x) w else q x) = q x := if_neg (by omega)
      have ed : (if x = n then dv x + 1 else dv x) = dv x := if_neg (by omega)
      simp only [ei, ed] at h3 hb' ho' ⊢
      rcases Nat.lt_or_ge w' w with z | z
      · obtain ⟨j, g1, g2, g3⟩ := a8 hx h3 w' z hb' ho'
        exact ⟨j, by omega, by rw [if_neg (by omega)]; exact g2, fun z => by rw [if_neg (by omega)]; exact g3 z⟩
      · rw [show w' = w from by omega]
        exact ⟨n, by omega, if_pos rfl, fun _ => by rw [if_pos rfl]; exact Nat.le_refl _⟩
  · refine ⟨n, q, dv, hx, rfl, rfl, ?_⟩
    rw [add_old hb hm]
    refine ⟨⟨b1, b2, b3, b4, b5, b6⟩, ⟨c1, c2, c3⟩, a3, a4, a5, a6, a7, fun h1 h2 w' hw hb' ho' => ?_⟩
    rcases Nat.lt_or_ge w' w with z | z
    · exact a8 h1 h2 w' z hb' ho'
    · rw [show w' = w from by omega]
      obtain ⟨j, g1, g2⟩ := b1.2.2.2.2.2.1 _ hb hm
      exact ⟨j, g1, g2, fun y => a6 j y g1 hx⟩
theorem sp_next {I : Mm} {k t mo nx n0 : Nat} {q0 : Nat → Nat} {x n : Nat} {q dv : Nat → Nat} {w : Nat} {u : Mm} (h : SP I k t mo nx n0 q0 x n q dv w u) (hx : x < n) (hw : 4 ≤ w ∨ mo ≤ dv x) : SP I k t mo nx n0 q0 (x + 1) n q dv 0 (wr u k 3 (nI (x + 1))) := by
  obtain ⟨⟨⟨r1, r2, r3, r4, r5, r6, r7⟩, b2, b3, b4, b5, b6⟩, ⟨c1, c2, c3⟩, a3, a4, a5, a6, a7, a8⟩ := h
  have e1 : wr u k 3 (nI (x + 1)) (k + 1) = u (k + 1) := wr_n _ _ _ (by omega)
  have e2 : wr u k 3 (nI (x + 1)) (k + 2) = u (k + 2) := wr_n _ _ _ (by omega)
  refine ⟨⟨⟨r1, by rw [wr_sn _ _ _ (by omega)]; exact r2, r3, by rw [e2]; exact r4, by rw [e1]; exact r5, by rw [e1]; exact r6, by rw [e1]; exact r7⟩, wr_ss _ _ _ _, by omega, by omega, b5, b6⟩, ⟨fun a h1 h2 h3 => by rw [wr_n _ _ _ h1]; exact c1 a h1 h2 h3, c2, by rw [e1]; exact c3⟩, by rw [e1]; exact a3, a4, a5, fun j h1 h2 h3 => ?_, fun i h1 h2 h3 w' hw' hb ho => ?_, fun _ _ w' hw' => absurd hw' (Nat.not_lt_zero _)⟩
  · have := a6 j h1 h2 hx
    have := a5 x (x + 1) b3 (by omega) h3
    omega
  · rcases Nat.lt_or_ge i x with z | z
    · exact a7 i h1 z h3 w' hw' hb ho
    · have e : i = x := by omega
      subst e
      rcases hw with y | y
      · exact a8 hx h3 w' (by omega) hb ho
      · omega
theorem sp_open {I : Mm} {k t mo nx n0 : Nat} {q0 : Nat → Nat} {x n : Nat} {q dv : Nat → Nat} {w : Nat} {u : Mm} (h : SP I k t mo nx n0 q0 x n q dv w u) (ht : t + 1 ≠ k ∧ t + 1 ≠ k + 1 ∧ t + 1 ≠ k + 2) (hx : x < n) (hw4 : w < 4) : (f_X3_isOpen u t (f_X5_beside (nI (q x)) (nI w)) = 0 ∧ ¬ (nb (q x) w < 256 ∧ I (t + 1) (nb (q x) w) = 0)) ∨ (¬ f_X3_isOpen u t (f_X5_beside (nI (q x)) (nI w)) = 0 ∧ nb (q x) w < 256 ∧ I (t + 1) (nb (q x) w) = 0 ∧ f_X5_beside (nI (q x)) (nI w) = nI (nb (q x) w)) := by
  rw [bes_nb _ (h.1.1.2.2.1 x hx) w hw4]
  by_cases hb : nb (q x) w < 256
  · rw [if_pos hb]
    simp only [f_X3_isOpen]
    rw [if_neg (nI_pos (by omega)), if_neg (fun z => absurd ((nI_leI (by decide) (by omega)).mp z) (by omega)), nI_clamp (by omega), h.2.1.1 _ ht.1 ht.2.1 ht.2.2]
    by_cases ho : I (t + 1) (nb (q x) w) = 0
    · right; rw [if_pos ho]; exact ⟨by decide, hb, ho, trivial⟩
    · left; rw [if_neg ho]; exact ⟨rfl, fun z => ho z.2⟩
  · left
    rw [if_neg hb]
    exact ⟨by simp only [f_X3_isOpen]; rw [if_pos (by decide)]; rfl, fun z => hb z.1⟩

theorem sp_steps {I : Mm} {k t mo nx n0 : Nat} {q0 : Nat → Nat} {x n : Nat} {q dv : Nat → Nat} {w : Nat} {u : Mm} (h : SP I k t mo nx n0 q0 x n q dv w u) (hx : x < n) : f_X1_stepsTo u k (nI (q x)) = nI (dv x) := by
  have hq := h.1.1.2.2.1 x hx
  simp only [f_X1_stepsTo]
  rw [if_neg (nI_pos (by omega)), if_neg (fun z => absurd ((nI_leI (by decide) (by omega)).mp z) (by omega)), nI_clamp (by omega)]
  exact (h.2.2.1 x h.1.2.2.1 hx).1

set_option maxHeartbeats 4000000 in
set_option maxRecDepth 100000 in
theorem c_X1_spread (l : Launch) (D : va_G) (cs : Nat → ClassId) (ad : Nat → Nat) (I : Mm) (sz : Nat) (mo : Nat) (z : Nat) (hz : kC.getD z 0 = 2) (hmo : mo ≤ 256) (nx : Nat) (n0 : Nat) (q0 : Nat → Nat) (hsp0 : SP I (z + 5) (z + 1) mo nx n0 q0 nx n0 q0 (fun _ => 0) 0 I) : MetN l yX1_spread wsX1_spread ({ frames := 1, cells := 0, slots := 0, locals := 23 }) kC cs D ad I sz [.ref (ad (z + 5)), .ref (ad (z + 1)), .int (nI mo)] (fun u => ∃ (n : Nat) (q dv : Nat → Nat), SP I (z + 5) (z + 1) mo nx n0 q0 n n q dv 0 u) 0 0 := by
  refine g_met (cc := cX1_spread) (maxL := 7) (ret := none) (by decide) rfl (Nat.le_of_ble_eq_true rfl) ?_
  intro pg e s m args below meth c ls hx hb hr hml hts hown hlocks hsz hP hD hK hN hS hA hl
  have hown : s.vm.findClass RX1 = some m.cls := hown
  have hl : lv_has ls 7 [(0, .ref (ad (z + 5))), (1, .ref (ad (z + 1))), (2, .int (nI mo))] := hl
  suffices KL0 : ∀ (fuel : Nat) (x : Nat) (n : Nat) (q : Nat → Nat) (dv : Nat → Nat) (u : Mm) (H : Heap) (locs : List Loc) (ls : Array Slot), (SP I (z + 5) (z + 1) mo nx n0 q0 x n q dv 0 u) → 257 - x < fuel → va_P D vwCl (gw kC cs ad u) H → va_D (gA kC ad sz) (gw kC cs ad u) → va_S (gA kC ad sz) s.heap H locs → lv_has ls 7 [(0, .ref (ad (z + 5))), (1, .ref (ad (z + 1))), (2, .int (nI mo))] → W pg l e ({ frames := 1, cells := 0, slots := 0, locals := 23 }) s m args below meth c H locs 0 0 (MQ below (va_Qv (fun u => ∃ (n : Nat) (q dv : Nat → Nat), SP I (z + 5) (z + 1) mo nx n0 q0 n n q dv 0 u) (wat kC cs D ad (gA kC ad sz)) (gA kC ad sz)) args s 0 0 (gA kC ad sz)) (F0 m 0 ls []) from KL0 _ nx n0 q0 (fun _ => 0) I _ _ _ hsp0 (Nat.lt_succ_self _) hP hD hS (lv_sub hl [0, 1, 2] rfl)
  intro fuel0
  induction fuel0 with
  | zero => intro _ _ _ _ _ _ _ _ _ hm; exact absurd hm (Nat.not_lt_zero _)
  | succ fuel0 ih0 =>
    intro x n q dv u H locs ls hsp hm0 hP hD hS hl
    have hxn := hsp.1.2.2.2.1
    have hn256 := hsp.1.1.1
    refine lv_aload_n hx hb dX1_spread_0 rfl (lv_at hl 0 rfl) ?_
    refine g_get (κ := 4) (ci := 1) (v := .int (u (z + 5) 3)) (C := RX1) (T := TX1) (N := 4) hx hb hts hown hK hP (k := (z + 5)) (kd_2_1 hz) (by decide) rfl (fun _ h => List.mem_cons_of_mem _ (List.mem_append_left _ (List.mem_append_right _ h))) rfl 3 (by decide) (hts _ (List.mem_of_getElem? (i := 1) rfl)) (fun _ h9 => h9) rfl dX1_spread_1 ?_
    rw [show u (z + 5) 3 = nI x from hsp.1.2.1]
    refine lv_aload_n hx hb dX1_spread_4 rfl (lv_at hl 0 rfl) ?_
    refine g_get (κ := 4) (ci := 1) (v := .int (u (z + 5) 2)) (C := RX1) (T := TX1) (N := 4) hx hb hts hown hK hP (k := (z + 5)) (kd_2_1 hz) (by decide) rfl (fun _ h => List.mem_cons_of_mem _ (List.mem_append_left _ (List.mem_append_right _ h))) rfl 2 (by decide) (hts _ (List.mem_of_getElem? (i := 2) rfl)) (fun _ h9 => h9) rfl dX1_spread_5 ?_
    rw [show u (z + 5) 2 = nI n from hsp.1.1.2.1]
    refine lv_icmp_ge (tgt := 99) hx hb dX1_spread_8 (by decide) (fun c_1 => ?_) (fun c_1 => ?_)
    · skip
      have nc_1 : n ≤ x := (nI_leI (a := n) (b := x) (by omega) (by omega)).mp c_1
      exact g_vret hx hb hr hlocks hP hD hS ⟨n, q, dv, by rw [show x = n from by omega] at hsp; exact hsp⟩ dX1_spread_99
    · skip
      have nc_1 : ¬ n ≤ x := fun z9_ => c_1 ((nI_leI (a := n) (b := x) (by omega) (by omega)).mpr z9_)
      refine lv_aload_n hx hb dX1_spread_11 rfl (lv_at hl 0 rfl) ?_
      refine g_get (κ := 4) (ci := 1) (v := .int (u (z + 5) 3)) (C := RX1) (T := TX1) (N := 4) hx hb hts hown hK hP (k := (z + 5)) (kd_2_1 hz) (by decide) rfl (fun _ h => List.mem_cons_of_mem _ (List.mem_append_left _ (List.mem_append_right _ h))) rfl 3 (by decide) (hts _ (List.mem_of_getElem? (i := 1) rfl)) (fun _ h9 => h9) rfl dX1_spread_12 ?_
      rw [show u (z + 5) 3 = nI x from hsp.1.2.1]
      refine lv_sipush (v := nI 256) hx hb dX1_spread_15 (by decide) ?_
      refine lv_icmp_ge (tgt := 99) hx hb dX1_spread_18 (by decide) (fun c_2 => ?_) (fun c_2 => ?_)
      · skip
        have nc_2 : 256 ≤ x := (nI_leI (a := 256) (b := x) (by omega) (by omega)).mp c_2
        exact absurd nc_2 (by have := hsp.1.1.1; omega)
      · skip
        have nc_2 : ¬ 256 ≤ x := fun z9_ => c_2 ((nI_leI (a := 256) (b := x) (by omega) (by omega)).mpr z9_)
        refine lv_aload_n hx hb dX1_spread_21 rfl (lv_at hl 0 rfl) ?_
        refine g_get (κ := 4) (ci := 1) (v := .ref (ad (z + 5 + 2))) (C := RX1) (T := TX1) (N := 4) hx hb hts hown hK hP (k := (z + 5)) (kd_2_1 hz) (by decide) rfl (fun _ h => List.mem_cons_of_mem _ (List.mem_append_left _ (List.mem_append_right _ h))) rfl 1 (by decide) (hts _ (List.mem_of_getElem? (i := 3) rfl)) (fun _ h9 => h9) rfl dX1_spread_22 ?_
        refine lv_aload_n hx hb dX1_spread_25 rfl (lv_at hl 0 rfl) ?_
        refine g_get (κ := 4) (ci := 1) (v := .int (u (z + 5) 3)) (C := RX1) (T := TX1) (N := 4) hx hb hts hown hK hP (k := (z + 5)) (kd_2_1 hz) (by decide) rfl (fun _ h => List.mem_cons_of_mem _ (List.mem_append_left _ (List.mem_append_right _ h))) rfl 3 (by decide) (hts _ (List.mem_of_getElem? (i := 1) rfl)) (fun _ h9 => h9) rfl dX1_spread_26 ?_
        rw [show u (z + 5) 3 = nI x from hsp.1.2.1]
        refine g_ialdn (n := 256) (i := x) hx hb hK hP (k := (z + 5 + 2)) (kd_4_1 (kd_2_1 hz)) (by decide) rfl (by omega) (by decide) dX1_spread_29 ?_
        rw [show u (z + 5 + 2) x = nI (q x) from (hsp.1.1.2.2.2.1 x (by omega))]
        have hqx := hsp.1.1.2.2.1 x (by omega)
        have hdx := hsp.2.2.1 x hsp.1.2.2.1 (by omega)
        refine lv_istore_n (lv' := [(3, .int (nI (q x))), (0, .ref (ad (z + 5))), (1, .ref (ad (z + 1))), (2, .int (nI mo))]) hx hb dX1_spread_30 rfl hl (by decide) rfl (fun ls hl => ?_)
        refine lv_aload_n hx hb dX1_spread_31 rfl (lv_at hl 1 rfl) ?_
        refine lv_iload_n hx hb dX1_spread_32 rfl (lv_at hl 0 rfl) ?_
        refine g_callF (F := f_X1_stepsTo u (z + 5) (nI (q x))) hD hS hA (va_runV (As := [.int (nI (q x))]) (rest := []) ⟨hx, hb, hml, hown, hts⟩ (c_X1_stepsTo l D cs ad u H.size (z + 5) (kd_2_1 hz) (nI (q x))) (cwV 1 hts gX1_spread_X1_stepsTo rfl rfl rfl (by decide +kernel) ⟨Nat.le_of_ble_eq_true rfl, Nat.le_of_ble_eq_true rfl⟩) (g_preV hP hD hK hN (k := (z + 5)) (kd_2_1 hz) (by decide) rfl rfl rfl rfl) rfl rfl hl.1 rfl (lv_room (Nat.le_of_ble_eq_true rfl)) dX1_spread_33 ⟨Nat.le_of_ble_eq_true rfl, Nat.le_of_ble_eq_true rfl⟩) (fun H locs hP hD hS => ?_)
        rw [show f_X1_stepsTo u (z + 5) (nI (q x)) = nI (dv x) from (sp_steps hsp (by omega))]
        refine lv_istore (lv' := [(4, .int (nI (dv x))), (3, .int (nI (q x))), (0, .ref (ad (z + 5))), (1, .ref (ad (z + 1))), (2, .int (nI mo))]) hx hb dX1_spread_36 hl (by decide) rfl (fun ls hl => ?_)
        refine lv_iconst (v := nI 0) hx hb dX1_spread_38 (by decide) ?_
        refine lv_istore (lv' := [(5, .int (nI 0)), (4, .int (nI (dv x))), (3, .int (nI (q x))), (0, .ref (ad (z + 5))), (1, .ref (ad (z + 1))), (2, .int (nI mo))]) hx hb dX1_spread_39 hl (by decide) rfl (fun ls hl => ?_)
        suffices KL41 : ∀ (fuel : Nat) (w : Nat) (n2 : Nat) (q2 : Nat → Nat) (dv2 : Nat → Nat) (v : Mm) (H : Heap) (locs : List Loc) (ls : Array Slot), (w ≤ 4) → (x < n2) → (q2 x = q x) → (dv2 x = dv x) → (SP I (z + 5) (z + 1) mo nx n0 q0 x n2 q2 dv2 w v) → 5 - w < fuel → va_P D vwCl (gw kC cs ad v) H → va_D (gA kC ad sz) (gw kC cs ad v) → va_S (gA kC ad sz) s.heap H locs → lv_has ls 7 [(5, .int (nI w)), (4, .int (nI (dv x))), (3, .int (nI (q x))), (0, .ref (ad (z + 5))), (1, .ref (ad (z + 1))), (2, .int (nI mo))] → W pg l e ({ frames := 1, cells := 0, slots := 0, locals := 23 }) s m args below meth c H locs 0 0 (MQ below (va_Qv (fun u => ∃ (n : Nat) (q dv : Nat → Nat), SP I (z + 5) (z + 1) mo nx n0 q0 n n q dv 0 u) (wat kC cs D ad (gA kC ad sz)) (gA kC ad sz)) args s 0 0 (gA kC ad sz)) (F0 m 41 ls []) from KL41 _ 0 n q dv u _ _ _ (by omega) (by omega) rfl rfl hsp (Nat.lt_succ_self _) hP hD hS (lv_sub hl [0, 1, 2, 3, 4, 5] rfl)
        intro fuel41
        induction fuel41 with
        | zero => intro _ _ _ _ _ _ _ _ _ _ _ _ _ hm; exact absurd hm (Nat.not_lt_zero _)
        | succ fuel41 ih41 =>
          intro w n2 q2 dv2 v H locs ls hw hx2 hq2 hdv2 hsv hm41 hP hD hS hl
          have hn256v := hsv.1.1.1
          refine lv_iload hx hb dX1_spread_41 (lv_at hl 0 rfl) ?_
          refine lv_iconst (v := nI 4) hx hb dX1_spread_43 (by decide) ?_
          refine lv_icmp_ge (tgt := 86) hx hb dX1_spread_44 (by decide) (fun c_3 => ?_) (fun c_3 => ?_)
          · skip
            have nc_3 : 4 ≤ w := (nI_leI (a := 4) (b := w) (by omega) (by omega)).mp c_3
            refine lv_aload_n hx hb dX1_spread_86 rfl (lv_at hl 3 rfl) ?_
            refine lv_dup hx hb dX1_spread_87 rfl ?_
            refine g_get (κ := 4) (ci := 1) (v := .int (v (z + 5) 3)) (C := RX1) (T := TX1) (N := 4) hx hb hts hown hK hP (k := (z + 5)) (kd_2_1 hz) (by decide) rfl (fun _ h => List.mem_cons_of_mem _ (List.mem_append_left _ (List.mem_append_right _ h))) rfl 3 (by decide) (hts _ (List.mem_of_getElem? (i := 1) rfl)) (fun _ h9 => h9) rfl dX1_spread_88 ?_
            rw [show v (z + 5) 3 = nI x from hsv.1.2.1]
            refine lv_iconst (v := nI 1) hx hb dX1_spread_91 (by decide) ?_
            refine lv_iadd hx hb dX1_spread_92 ?_
            rw [nI_add x 1]
            refine g_put (κ := 4) (ci := 1) (v := nI (x + 1)) (ty := .int) (C := RX1) (T := TX1) (N := 4) hx hb hts hown hK hP hD hS (k := (z + 5)) (kd_2_1 hz) (by decide) rfl (fun _ h => List.mem_cons_of_mem _ (List.mem_append_left _ (List.mem_append_right _ h))) tyX1 tyX1_ok nmX1 rfl 3 (by decide) (hts _ (List.mem_of_getElem? (i := 1) rfl)) (fun _ h9 => h9) rfl (by decide +kernel) rfl rfl (Nat.le_of_ble_eq_true rfl) rfl dX1_spread_93 (fun u4 H locs hu4 hP hD hS => ?_)
            refine lv_goto (tgt := 0) hx hb dX1_spread_96 (by decide) ?_
            exact ih0 (x + 1) n2 q2 dv2 u4 _ _ _ (by rw [hu4]; exact sp_next hsv hx2 (by omega)) (by have := hsv.1.1.1; omega) hP hD hS (lv_sub hl [3, 4, 5] rfl)
          · skip
            have nc_3 : ¬ 4 ≤ w := fun z9_ => c_3 ((nI_leI (a := 4) (b := w) (by omega) (by omega)).mpr z9_)
            refine lv_iload hx hb dX1_spread_47 (lv_at hl 1 rfl) ?_
            have hso := sp_open hsv ⟨by omega, by omega, by omega⟩ hx2 (show w < 4 from by omega)
            rw [hq2] at hso
            refine lv_iload_n hx hb dX1_spread_49 rfl (lv_at hl 5 rfl) ?_
            refine lv_icmp_ge (tgt := 86) hx hb dX1_spread_50 (by decide) (fun c_5 => ?_) (fun c_5 => ?_)
            · skip
              have nc_5 : mo ≤ (dv x) := (nI_leI (a := mo) (b := (dv x)) (by omega) (by omega)).mp c_5
              refine lv_aload_n hx hb dX1_spread_86 rfl (lv_at hl 3 rfl) ?_
              refine lv_dup hx hb dX1_spread_87 rfl ?_
              refine g_get (κ := 4) (ci := 1) (v := .int (v (z + 5) 3)) (C := RX1) (T := TX1) (N := 4) hx hb hts hown hK hP (k := (z + 5)) (kd_2_1 hz) (by decide) rfl (fun _ h => List.mem_cons_of_mem _ (List.mem_append_left _ (List.mem_append_right _ h))) rfl 3 (by decide) (hts _ (List.mem_of_getElem? (i := 1) rfl)) (fun _ h9 => h9) rfl dX1_spread_88 ?_
              rw [show v (z + 5) 3 = nI x from hsv.1.2.1]
              refine lv_iconst (v := nI 1) hx hb dX1_spread_91 (by decide) ?_
              refine lv_iadd hx hb dX1_spread_92 ?_
              rw [nI_add x 1]
              refine g_put (κ := 4) (ci := 1) (v := nI (x + 1)) (ty := .int) (C := RX1) (T := TX1) (N := 4) hx hb hts hown hK hP hD hS (k := (z + 5)) (kd_2_1 hz) (by decide) rfl (fun _ h => List.mem_cons_of_mem _ (List.mem_append_left _ (List.mem_append_right _ h))) tyX1 tyX1_ok nmX1 rfl 3 (by decide) (hts _ (List.mem_of_getElem? (i := 1) rfl)) (fun _ h9 => h9) rfl (by decide +kernel) rfl rfl (Nat.le_of_ble_eq_true rfl) rfl dX1_spread_93 (fun u6 H locs hu6 hP hD hS => ?_)
              refine lv_goto (tgt := 0) hx hb dX1_spread_96 (by decide) ?_
              exact ih0 (x + 1) n2 q2 dv2 u6 _ _ _ (by rw [hu6]; exact sp_next hsv hx2 (by omega)) (by have := hsv.1.1.1; omega) hP hD hS (lv_sub hl [3, 4, 5] rfl)
            · skip
              have nc_5 : ¬ mo ≤ (dv x) := fun z9_ => c_5 ((nI_leI (a := mo) (b := (dv x)) (by omega) (by omega)).mpr z9_)
              refine lv_iload_n hx hb dX1_spread_53 rfl (lv_at hl 2 rfl) ?_
              refine lv_iload hx hb dX1_spread_54 (lv_at hl 0 rfl) ?_
              refine g_callF (F := f_X5_beside (nI (q x)) (nI w)) hD hS hA (va_runSN (As := [.int (nI (q x)), .int (nI w)]) (rest := []) ⟨hx, hb, hml, hown, hts⟩ (c_X5_beside l D cs ad v H.size (nI (q x)) (nI w)) ⟨va_cnB 2 hts gX1_spread_X5_beside_n39 rfl rfl rfl (nwv22 hN) (hts _ (List.mem_of_getElem? (i := 11) rfl)) (by decide +kernel) ⟨Nat.le_of_ble_eq_true rfl, Nat.le_of_ble_eq_true rfl⟩, (hts _ (List.mem_of_getElem? (i := 10) rfl)), trivial⟩ (g_preS hP hD hK hN) rfl rfl hl.1 rfl (lv_room (Nat.le_of_ble_eq_true rfl)) dX1_spread_56 ⟨Nat.le_of_ble_eq_true rfl, Nat.le_of_ble_eq_true rfl⟩) (fun H locs hP hD hS => ?_)
              refine lv_istore (lv' := [(6, .int (f_X5_beside (nI (q x)) (nI w))), (5, .int (nI w)), (4, .int (nI (dv x))), (3, .int (nI (q x))), (0, .ref (ad (z + 5))), (1, .ref (ad (z + 1))), (2, .int (nI mo))]) hx hb dX1_spread_59 hl (by decide) rfl (fun ls hl => ?_)
              refine lv_aload_n hx hb dX1_spread_61 rfl (lv_at hl 5 rfl) ?_
              refine lv_iload hx hb dX1_spread_62 (lv_at hl 0 rfl) ?_
              refine g_callF (F := f_X3_isOpen v (z + 1) (f_X5_beside (nI (q x)) (nI w))) hD hS hA (va_runV (As := [.int (f_X5_beside (nI (q x)) (nI w))]) (rest := []) ⟨hx, hb, hml, hown, hts⟩ (c_X3_isOpen l D cs ad v H.size (z + 1) (kd_2_0 hz) (f_X5_beside (nI (q x)) (nI w))) (cwV 1 hts gX1_spread_X3_isOpen rfl rfl rfl (by decide +kernel) ⟨Nat.le_of_ble_eq_true rfl, Nat.le_of_ble_eq_true rfl⟩) (g_preV hP hD hK hN (k := (z + 1)) (kd_2_0 hz) (by decide) rfl rfl rfl rfl) rfl rfl hl.1 rfl (lv_room (Nat.le_of_ble_eq_true rfl)) dX1_spread_64 ⟨Nat.le_of_ble_eq_true rfl, Nat.le_of_ble_eq_true rfl⟩) (fun H locs hP hD hS => ?_)
              refine lv_if_eq (tgt := 80) hx hb dX1_spread_67 (by decide) (fun c_7 => ?_) (fun c_7 => ?_)
              · skip
                have hop := hso.resolve_right (fun z => z.1 c_7)
                refine lv_iinc (v := nI (w + 1)) (lv' := [(5, .int (nI (w + 1))), (6, .int (f_X5_beside (nI (q x)) (nI w))), (4, .int (nI (dv x))), (3, .int (nI (q x))), (0, .ref (ad (z + 5))), (1, .ref (ad (z + 1))), (2, .int (nI mo))]) hx hb dX1_spread_80 hl (k := 1) rfl (nI_1 w) (by decide) rfl (fun ls hl => ?_)
                refine lv_goto (tgt := 41) hx hb dX1_spread_83 (by decide) ?_
                exact ih41 (w + 1) n2 q2 dv2 v _ _ _ (by omega) hx2 hq2 hdv2 (sp_skip hsv (by rw [hq2]; exact hop.2)) (by omega) hP hD hS (lv_sub hl [0, 2, 3, 4, 5, 6] rfl)
              · skip
                have hop := hso.resolve_left (fun z => c_7 z.1)
                refine lv_aload_n hx hb dX1_spread_70 rfl (lv_at hl 4 rfl) ?_
                refine lv_iload hx hb dX1_spread_71 (lv_at hl 0 rfl) ?_
                refine lv_iload hx hb dX1_spread_73 (lv_at hl 2 rfl) ?_
                refine lv_iconst (v := nI 1) hx hb dX1_spread_75 (by decide) ?_
                refine lv_iadd hx hb dX1_spread_76 ?_
                rw [nI_add (dv x) 1]
                refine g_callM (M := m_X1_add v (z + 5) (f_X5_beside (nI (q x)) (nI w)) (nI ((dv x) + 1)) n2) hD hS hA (va_runV (As := [.int (f_X5_beside (nI (q x)) (nI w)), .int (nI ((dv x) + 1))]) (rest := []) ⟨hx, hb, hml, hown, hts⟩ (c_X1_add l D cs ad v H.size (z + 5) (kd_2_1 hz) (f_X5_beside (nI (q x)) (nI w)) (nI ((dv x) + 1)) n2 hsv.1.1.2.1 hsv.1.1.1) (cwV 2 hts gX1_spread_X1_add rfl rfl rfl (by decide +kernel) ⟨Nat.le_of_ble_eq_true rfl, Nat.le_of_ble_eq_true rfl⟩) (g_preV hP hD hK hN (k := (z + 5)) (kd_2_1 hz) (by decide) rfl rfl rfl rfl) rfl rfl hl.1 rfl (lv_room (Nat.le_of_ble_eq_true rfl)) dX1_spread_77 ⟨Nat.le_of_ble_eq_true rfl, Nat.le_of_ble_eq_true rfl⟩) (fun u8 H locs hu8 hP hD hS => ?_)
                refine lv_iinc (v := nI (w + 1)) (lv' := [(5, .int (nI (w + 1))), (6, .int (f_X5_beside (nI (q x)) (nI w))), (4, .int (nI (dv x))), (3, .int (nI (q x))), (0, .ref (ad (z + 5))), (1, .ref (ad (z + 1))), (2, .int (nI mo))]) hx hb dX1_spread_80 hl (k := 1) rfl (nI_1 w) (by decide) rfl (fun ls hl => ?_)
                refine lv_goto (tgt := 41) hx hb dX1_spread_83 (by decide) ?_
                obtain ⟨n3, q3, dv3, g1, g2, g3, g4⟩ := sp_add hsv hx2 (by omega) (by omega) hmo (by rw [hq2]; exact hop.2.1) (by rw [hq2]; exact hop.2.2.1)
                exact ih41 (w + 1) n3 q3 dv3 u8 _ _ _ (by omega) g1 (g2.trans hq2) (g3.trans hdv2) (by rw [hu8, hop.2.2.2, ← hq2, ← hdv2]; exact g4) (by omega) hP hD hS (lv_sub hl [0, 2, 3, 4, 5, 6] rfl)
