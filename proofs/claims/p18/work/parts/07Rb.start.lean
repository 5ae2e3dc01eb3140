/-! a Run as it is started -/
theorem RP.start {n : Nat} {T : Nat → Nat} {k1 i : Nat} {nx : Int32} {D D2 : tD} {bd : Nat → tB} {o : Int32} {v : Int64} (hb : bsC n T) (hw : wfC i n T D) (hob : ∀ q, q < n → obO T D q (bd q)) (hbd : ∀ q, q < n → okBd n (T q) (bd q)) (ho : okHa n o) (hB : BD D2 = BD D) (hQ : QD D2 = QD D) (hr : rD D2 i = (0, 0, 0, 0, -3, some k1, nx)) (hT : TRC [] (eD D2 i) (ID D2 (5 + 8 * i + 2)) (ID D2 (5 + 8 * i + 3)) (ID D2 (5 + 8 * i + 4))) (h6 : ∀ x, x < 4 → ID D2 (5 + 8 * i + 6) x = if x = 0 then o else -3) (h7 : ∀ x, x < 4 → JD D2 (5 + 8 * i + 7) x = if x = 0 then v else 0) : RP n T k1 i 0 0 (-3) nx (s0C bd o v) D2 := by
  have hob2 : ∀ q, q < n → obO T D2 q (bd q) := fun q hq => (hob q hq).ext (by rw [hQ]) (fun x y hx _ => by rw [hB]; exact hx)
  refine ⟨hb, okS_0 hbd ho, ⟨0, hr, fun q _ => bt_zero⟩, hT, h6, h7, fun q hq => ?_, fun q hq => ⟨_, hob2 q hq⟩, fun q hq => ⟨fun hl => ?_, fun _ => hob2 q hq⟩⟩
  · rcases hw q hq with w | ⟨w1, c, w2⟩
    · exact Or.inl (by rw [hQ]; exact w)
    · exact Or.inr ⟨w1, c, w2.ext (by rw [hQ]) (fun x y hx _ => by rw [hB]; exact hx)⟩
  · have hl : false = true := hl
    cases hl
