/-! flat memory: word j of cell k of a world; kinds of cells; the world as one list -/
abbrev vwCl : List vw_C := [(RX0, TX0, 7), (RX1, TX1, 4), (RX2, TX2, 3), (RX3, TX3, 3), (RX4, TX4, 8), (RX5, TX5, 3), (RX6, TX6, 8)]
abbrev Mm : Type := Nat → Nat → Int32
def wrA (I : Mm) (k : Nat) (f : Nat → Int32) : Mm := fun a => if a = k then f else I a
def wr (I : Mm) (k j : Nat) (v : Int32) : Mm := wrA I k (upd (I k) j v)
theorem wrA_s (I : Mm) (k : Nat) (f : Nat → Int32) : wrA I k f k = f := if_pos rfl
theorem wrA_n (I : Mm) {k a : Nat} (f : Nat → Int32) (h : a ≠ k) : wrA I k f a = I a := if_neg h
theorem wr_ss (I : Mm) (k j : Nat) (v : Int32) : wr I k j v k j = v := by simp [wr, wrA, upd]
theorem wr_sn (I : Mm) (k : Nat) {j i : Nat} (v : Int32) (h : i ≠ j) : wr I k j v k i = I k i := by simp [wr, wrA, upd, h]
theorem wr_n (I : Mm) {k a : Nat} (j : Nat) (v : Int32) (h : a ≠ k) : wr I k j v a = I a := if_neg h
/-- array classes: 0 int[], 1 SnowMaze$Tunneller[], 2 int[][], 3 long[] -/
def tyA (cs : Nat → ClassId) : List (ClassId × FieldType) := [(cs 0, .int), (cs 1, .object "SnowMaze$Tunneller"), (cs 2, .array .int), (cs 3, .long)]
def cw (cs : Nat → ClassId) (κ : Nat) (rf : Nat → Nat) (x : Nat → Int32) : va_E :=
  match κ with
  | 1 => .inr (5, [.ref (rf 1), .ref (rf 26), .ref (rf 51)])
  | 2 => .inr (0, [.ref (rf 1), .ref (rf 5), .ref (rf 8), .int (x 3), .int (x 4), .int (x 5), .int (x 6)])
  | 3 => .inr (3, [.ref (rf 1), .ref (rf 2), .ref (rf 3)])
  | 4 => .inr (1, [.ref (rf 1), .ref (rf 2), .int (x 2), .int (x 3)])
  | 5 => .inl (cs 1, 8, .inr (.inr (.inr (.inr (fun i => some (rf (1 + i)))))))
  | 6 => .inr (4, [.int (x 0), .int (x 1), .int (x 2), .int (x 3), .int (x 4), .int (x 5), .ref (rf 8), .int (x 7)])
  | 7 => .inr (2, [.ref (rf 1), .ref (rf 2), .int (x 2)])
  | 8 => .inl (cs 0, 256, .inl x)
  | 9 => .inl (cs 0, 24, .inl x)
  | 10 => .inr (6, [.int (x 0), .ref (rf 1), .ref (rf 2), .ref (rf 3), .ref (rf 4), .ref (rf 5), .int (x 6), .ref (rf 6)])
  | 11 => .inl (cs 0, 248, .inl x)
  | 12 => .inl (cs 0, 4, .inl x)
  | _ => .inl (cs 0, 0, .inl x)
abbrev kzs : List Nat := [2, 3, 8, 8, 8, 4, 8, 8, 5, 6, 6, 6, 6, 6, 6, 6, 6, 9, 9, 9, 9, 9, 9, 9, 9]
/-- the cells of the class: SnowMaze; now: Maze, Snow, sorts, ages, posts, Reach, steps, reached, crew, 8 tunnellers, their 8 orders; ahead, likewise; Shaft, sums, queue -/
def kC : List Nat := 1 :: (kzs ++ (kzs ++ [7, 8, 8]))
/-- the cells of the reference: the object, sorts, ages, posts, people, numbers, wave -/
def kM : List Nat := [10, 8, 8, 8, 11, 12, 8]
def gw (K : List Nat) (cs : Nat → ClassId) (ad : Nat → Nat) (I : Mm) : va_W := (List.range K.length).map (fun k => (ad k, cw cs (K.getD k 0) (fun d => ad (k + d)) (I k)))
def gA (K : List Nat) (ad : Nat → Nat) (sz : Nat) : Nat → Prop := fun q => (∃ k, k < K.length ∧ q = ad k) ∨ sz ≤ q
theorem gk_lt {K : List Nat} {k κ : Nat} (h : K.getD k 0 = κ) (h0 : κ ≠ 0) : k < K.length := by
  rcases Nat.lt_or_ge k K.length with q | q
  · exact q
  · have e : K.getD k 0 = 0 := by simp [List.getD, List.getElem?_eq_none q]
    exact absurd (h.symm.trans e) h0
theorem gw_get {K : List Nat} {cs : Nat → ClassId} {ad : Nat → Nat} {I : Mm} {k : Nat} (hk : k < K.length) : (gw K cs ad I)[k]? = some (ad k, cw cs (K.getD k 0) (fun d => ad (k + d)) (I k)) := by
  simp [gw, hk]
theorem gw_at {K : List Nat} {cs : Nat → ClassId} {ad : Nat → Nat} {I : Mm} {k κ : Nat} (h : K.getD k 0 = κ) (h0 : κ ≠ 0) {e : va_E} (he : cw cs κ (fun d => ad (k + d)) (I k) = e) : (gw K cs ad I)[k]? = some (ad k, e) := by
  rw [gw_get (gk_lt h h0), h, he]
theorem gw_inv {K : List Nat} {cs : Nat → ClassId} {ad : Nat → Nat} {I : Mm} {k : Nat} {q : Nat × va_E} (h : (gw K cs ad I)[k]? = some q) : k < K.length ∧ q.1 = ad k := by
  have hl : k < (gw K cs ad I).length := (List.getElem?_eq_some_iff.mp h).1
  have hl2 : k < K.length := by simpa [gw] using hl
  rw [gw_get hl2] at h
  exact ⟨hl2, by rw [← Option.some.inj h]⟩
theorem gw_set {K : List Nat} {cs : Nat → ClassId} {ad : Nat → Nat} {I : Mm} {k κ : Nat} (h : K.getD k 0 = κ) {x : Nat → Int32} {e : va_E} (he : cw cs κ (fun d => ad (k + d)) x = e) : (gw K cs ad I).set k (ad k, e) = gw K cs ad (wrA I k x) := by
  apply List.ext_getElem?
  intro i
  by_cases hi : i = k
  · subst hi
    by_cases hl : i < K.length
    · rw [List.getElem?_set_self (by simpa [gw] using hl), gw_get hl, h, wrA_s, he]
    · rw [List.getElem?_eq_none (by simpa [gw] using Nat.le_of_not_lt hl), List.getElem?_eq_none (by simpa [gw] using Nat.le_of_not_lt hl)]
  · rw [List.getElem?_set_ne (Ne.symm hi)]
    by_cases hl : i < K.length
    · rw [gw_get hl, gw_get hl, wrA_n _ _ hi]
    · rw [List.getElem?_eq_none (by simpa [gw] using Nat.le_of_not_lt hl), List.getElem?_eq_none (by simpa [gw] using Nat.le_of_not_lt hl)]
theorem gA_self {K : List Nat} {cs : Nat → ClassId} {ad : Nat → Nat} {I : Mm} {sz : Nat} {A : Nat → Prop} (h : va_D A (gw K cs ad I)) : va_D (gA K ad sz) (gw K cs ad I) := ⟨h.1, fun k q hk => by
  obtain ⟨h1, h2⟩ := gw_inv hk
  exact Or.inl ⟨k, h1, h2⟩⟩
theorem gA_free {K : List Nat} {cs : Nat → ClassId} {ad : Nat → Nat} {I : Mm} {A : Nat → Prop} {H0 H : Heap} {locs : List Loc} (hD : va_D A (gw K cs ad I)) (hS : va_S A H0 H locs) (hA : ∀ q, H0.size ≤ q → A q) : ∀ q, gA K ad H.size q → A q := by
  intro q h
  rcases h with ⟨k, hk, rfl⟩ | h
  · exact hD.2 k _ (gw_get hk)
  · exact hA q (Nat.le_trans hS.1 h)
theorem gA_sub {K : List Nat} {ad : Nat → Nat} {a b : Nat} (h : b ≤ a) : ∀ q, gA K ad a q → gA K ad b q := fun q hq => hq.elim (fun z => Or.inl z) (fun z => Or.inr (Nat.le_trans h z))
