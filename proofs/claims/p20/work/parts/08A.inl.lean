/-! constructors: the cells that have been made so far, the newest first -/
def inL (q : Nat) (f0 : mF) (L : List (Nat × va_E)) (f : mF) : Prop := (∀ p ∈ L, f p.1 = some p.2) ∧ (∀ p ∈ L, q < p.1) ∧ L.Pairwise (fun x y => y.1 < x.1) ∧ (∀ p ∈ L, f0 p.1 = none) ∧ ∀ (a : Nat) (e : va_E), a ≠ q → f0 a = some e → f a = some e
theorem inL.nil {q : Nat} {f : mF} : inL q f [] f := ⟨fun _ hp => absurd hp List.not_mem_nil, fun _ hp => absurd hp List.not_mem_nil, List.Pairwise.nil, fun _ hp => absurd hp List.not_mem_nil, fun _ _ _ h => h⟩
theorem inL.put {q : Nat} {f0 f f2 : mF} {L : List (Nat × va_E)} {x : Option va_E} (h : inL q f0 L f) (ef : f2 = va_up f q x) : inL q f0 L f2 :=
  ⟨fun p hp => upk (h.1 p hp) ef (Nat.ne_of_gt (h.2.1 p hp)), h.2.1, h.2.2.1, h.2.2.2.1, fun a e h1 h2 => upk (h.2.2.2.2 a e h1 h2) ef h1⟩
theorem inL.new {q a : Nat} {f0 f f2 : mF} {L : List (Nat × va_E)} {e c : va_E} (h : inL q f0 L f) (Fq : f q = some c) (ef : f2 = va_up f a (some e)) (hlt : ∀ (b : Nat) (x : va_E), f b = some x → b < a) : inL q f0 ((a, e) :: L) f2 := by
  have hq : q < a := hlt q c Fq
  refine ⟨fun p hp => ?_, fun p hp => ?_, List.pairwise_cons.mpr ⟨fun p hp => hlt _ _ (h.1 p hp), h.2.2.1⟩, fun p hp => ?_, fun b x h1 h2 => upk (h.2.2.2.2 b x h1 h2) ef (Nat.ne_of_lt (hlt _ _ (h.2.2.2.2 b x h1 h2)))⟩
  · rcases List.mem_cons.mp hp with rfl | hp
    · rw [ef]; exact va_up_self _ _ _
    · exact upk (h.1 p hp) ef (Nat.ne_of_lt (hlt _ _ (h.1 p hp)))
  · rcases List.mem_cons.mp hp with rfl | hp
    · exact hq
    · exact h.2.1 p hp
  · rcases List.mem_cons.mp hp with rfl | hp
    · cases h0 : f0 a with
      | none => rfl
      | some x => exact absurd (hlt _ _ (h.2.2.2.2 a x (Nat.ne_of_gt hq) h0)) (Nat.lt_irrefl _)
    · exact h.2.2.2.1 p hp
theorem inL.call {q a : Nat} {f0 f f2 : mF} {L L2 : List (Nat × va_E)} {e e2 : va_E} (h : inL q f0 ((a, e) :: L) f) (h2 : inL a f L2 f2) (F2 : f2 a = some e2) : inL q f0 (L2 ++ ((a, e2) :: L)) f2 := by
  have hP := List.pairwise_cons.mp h.2.2.1
  have hqa : q < a := h.2.1 _ List.mem_cons_self
  have hle : ∀ p ∈ ((a, e2) :: L), p.1 ≤ a := fun p hp => by
    rcases List.mem_cons.mp hp with rfl | hp
    · exact Nat.le_refl _
    · exact Nat.le_of_lt (hP.1 p hp)
  refine ⟨fun p hp => ?_, fun p hp => ?_, List.pairwise_append.mpr ⟨h2.2.2.1, List.pairwise_cons.mpr ⟨hP.1, hP.2⟩, fun x hx y hy => Nat.lt_of_le_of_lt (hle y hy) (h2.2.1 x hx)⟩, fun p hp => ?_, fun b x h1 h3 => ?_⟩
  · rcases List.mem_append.mp hp with hp | hp
    · exact h2.1 p hp
    · rcases List.mem_cons.mp hp with rfl | hp
      · exact F2
      · exact h2.2.2.2.2 _ _ (Nat.ne_of_lt (hP.1 p hp)) (h.1 p (List.mem_cons_of_mem _ hp))
  · rcases List.mem_append.mp hp with hp | hp
    · exact Nat.lt_trans hqa (h2.2.1 p hp)
    · rcases List.mem_cons.mp hp with rfl | hp
      · exact hqa
      · exact h.2.1 p (List.mem_cons_of_mem _ hp)
  · rcases List.mem_append.mp hp with hp | hp
    · cases h0 : f0 p.1 with
      | none => rfl
      | some x =>
        have := h.2.2.2.2 p.1 x (Nat.ne_of_gt (Nat.lt_trans hqa (h2.2.1 p hp))) h0
        rw [h2.2.2.2.1 p hp] at this
        cases this
    · rcases List.mem_cons.mp hp with rfl | hp
      · exact h.2.2.2.1 (a, e) List.mem_cons_self
      · exact h.2.2.2.1 p (List.mem_cons_of_mem _ hp)
  · have h4 := h.2.2.2.2 b x h1 h3
    refine h2.2.2.2.2 b x (fun hb => ?_) h4
    have h0 : f0 a = none := h.2.2.2.1 (a, e) List.mem_cons_self
    rw [hb, h0] at h3
    cases h3
theorem inL.at {q : Nat} {f0 f : mF} {L : List (Nat × va_E)} {a : Nat} {e : va_E} (h : inL q f0 L f) (i : Nat) (hi : L[i]? = some (a, e)) : f a = some e := h.1 (a, e) (List.mem_of_getElem? hi)
theorem inL.lt {q : Nat} {f0 f : mF} {L : List (Nat × va_E)} {a : Nat} {e : va_E} (h : inL q f0 L f) (i : Nat) (hi : L[i]? = some (a, e)) : q < a := h.2.1 (a, e) (List.mem_of_getElem? hi)
theorem inL.sto {q : Nat} {f0 f f2 : mF} {L : List (Nat × va_E)} {a : Nat} {e e2 : va_E} (h : inL q f0 L f) (i : Nat) (hi : L[i]? = some (a, e)) (ef : f2 = va_up f a (some e2)) : inL q f0 (L.set i (a, e2)) f2 := by
  have hL := h.2.2.1
  rw [List.pairwise_iff_getElem] at hL
  obtain ⟨li, ei⟩ := List.getElem?_eq_some_iff.mp hi
  have key : ∀ p ∈ L.set i (a, e2), p = (a, e2) ∨ (p ∈ L ∧ p.1 ≠ a) := by
    intro p hp
    obtain ⟨j, hj⟩ := List.getElem?_of_mem hp
    by_cases hij : i = j
    · subst hij
      rw [List.getElem?_set_self li] at hj
      cases hj
      exact Or.inl rfl
    · rw [List.getElem?_set_ne hij] at hj
      refine Or.inr ⟨List.mem_of_getElem? hj, fun ha => ?_⟩
      obtain ⟨lj, ej⟩ := List.getElem?_eq_some_iff.mp hj
      rcases Nat.lt_or_gt_of_ne hij with q | q
      · have := hL i j li lj q
        rw [ei, ej, ha] at this
        exact Nat.lt_irrefl _ this
      · have := hL j i lj li q
        rw [ei, ej, ha] at this
        exact Nat.lt_irrefl _ this
  have ha : (a, e) ∈ L := List.mem_of_getElem? hi
  refine ⟨fun p hp => ?_, fun p hp => ?_, ?_, fun p hp => ?_, fun b x h1 h3 => ?_⟩
  · rcases key p hp with rfl | ⟨h1, h2⟩
    · rw [ef]; exact va_up_self _ _ _
    · exact upk (h.1 p h1) ef h2
  · rcases key p hp with rfl | ⟨h1, h2⟩
    · exact h.2.1 (a, e) ha
    · exact h.2.1 p h1
  · rw [List.pairwise_iff_getElem]
    intro j m hj hm hjm
    have e1 : ∀ (t : Nat) (ht : t < (L.set i (a, e2)).length), ((L.set i (a, e2))[t]).1 = (L[t]'(by rw [List.length_set] at ht; exact ht)).1 := by
      intro t ht
      rw [List.getElem_set]
      split
      · rename_i hit
        subst hit
        rw [ei]
      · rfl
    rw [e1 j hj, e1 m hm]
    exact hL j m _ _ hjm
  · rcases key p hp with rfl | ⟨h1, h2⟩
    · exact h.2.2.2.1 (a, e) ha
    · exact h.2.2.2.1 p h1
  · refine upk (h.2.2.2.2 b x h1 h3) ef (fun hb => ?_)
    rw [hb, h.2.2.2.1 (a, e) ha] at h3
    cases h3
theorem inL.sorted {q : Nat} {f0 f : mF} {L : List (Nat × va_E)} (h : inL q f0 L f) : (L.map (fun p => p.1) ++ [q]).Pairwise (fun x y => y < x) := by
  refine List.pairwise_append.mpr ⟨List.pairwise_map.mpr h.2.2.1, List.pairwise_singleton _ _, fun x hx y hy => ?_⟩
  obtain ⟨p, hp, rfl⟩ := List.mem_map.mp hx
  rcases List.mem_singleton.mp hy with rfl
  exact h.2.1 p hp
theorem getD_inj {al : List Nat} (h : al.Pairwise (fun x y => y < x)) {i j : Nat} (hi : i < al.length) (hj : j < al.length) (e : al.getD i 0 = al.getD j 0) : i = j := by
  rw [List.pairwise_iff_getElem] at h
  rw [List.getD_eq_getElem?_getD, List.getD_eq_getElem?_getD, List.getElem?_eq_getElem hi, List.getElem?_eq_getElem hj] at e
  have e : al[i] = al[j] := e
  rcases Nat.lt_trichotomy i j with q | q | q
  · have := h i j hi hj q; omega
  · exact q
  · have := h j i hj hi q; omega
theorem getD_map {L : List (Nat × va_E)} {q : Nat} {f0 f : mF} (h : inL q f0 L f) : ∀ i, i < L.length + 1 → i ≠ L.length → f0 ((L.map (fun p => p.1) ++ [q]).getD i 0) = none := by
  intro i hi hne
  have hl : i < L.length := by omega
  rw [List.getD_eq_getElem?_getD, List.getElem?_append_left (by rw [List.length_map]; exact hl), List.getElem?_map, List.getElem?_eq_getElem hl]
  exact h.2.2.2.1 _ (List.getElem_mem hl)
