set_option maxHeartbeats 40000000 in
set_option maxRecDepth 100000 in
theorem lw_loop {p : Program} {e : Env} {s : State} {m : MethodId} {below : List Frame} {meth : Method} {c : Code} (l : Launch) {b L : Nat} {xs : Nat → Int32} (hL : L ≤ 4608) (G : mG) (hgN : gN G = s.heap.size) (hC : mC G s) (C0 : lw_At p s m meth c b L xs) (k h : Nat → Nat) (hsep : ∀ i j, i < 41 → j < 30 → k i ≠ h j) (hjk : ∀ j, j < 30 → rM j = false → h j = h 0) : ∀ (fuel_ : Nat), lw_I p e s m below meth c l b L G k h fuel_ := by
  have C1 := C0
  obtain ⟨hx, hb, hr, hml, hown, hts0, hX, hbl, hlk, hgv⟩ := C0
  have hts : ∀ w ∈ wsL_law, w.before #[Value.ref b] s = true := fun w h => hts0 w (wsL_law_in w h)
  have hbA : ¬ mA G b := fun q => by have q : gN G ≤ b := q; omega
  have hLen : (Int32.ofNat L).toInt = (L : Int) := nI_toInt (by omega)
  intro fuel_
  induction fuel_ with
  | zero => intro i f rho cl_ sl_ q1 q2 q3 q4 q5 q6 q7; omega
  | succ N_ ih_ =>
    intro i f rho cl_ sl_ h0_ h1_ hJ hro hcl hsl hN_ H locs ls hH hl
    refine lv_iload_n hx hb dL_law_18 rfl (lv_at hl 0 rfl) ?_
    refine lv_aload_n hx hb dL_law_19 rfl (lv_at hl 3 rfl) ?_
    refine va_slen hx hb hX hbl hbA hH.2.2 dL_law_20 ?_
    refine lv_bipush (v := 9) hx hb dL_law_21 (by decide) ?_
    refine lv_isub hx hb dL_law_23 ?_
    refine lv_topi (fun x_1 ex_1 => ?_)
    have ix_1 : x_1.toInt = (L : Int) - 9 := ic_sub ex_1 hLen kI_9 (by omega) (by omega)
    refine lv_icmp_gt (tgt := 864) hx hb dL_law_24 (by decide) (fun c_2 => ?_) (fun c_2 => ?_)
    · skip
      have ic_2 : (x_1.toInt : Int) < i.toInt := ic_lt rfl rfl c_2
      refine lv_iconst (v := 1) hx hb dL_law_864 (by decide) ?_
      refine va_forget (fun q_ hq_ => by have := hH.2.2.2.2 q_ hq_; rw [← hgN]; exact this) ?_
      refine W.widen (k := 600000) (n := 7302250) (by omega) (by omega) ?_
      exact lw_ret hx hb hr hlk dL_law_865
    · skip
      have ic_2 : (x_1.toInt : Int) ≥ i.toInt := ic_nlt rfl rfl c_2
      refine lv_aload_n hx hb dL_law_27 rfl (lv_at hl 3 rfl) ?_
      refine lv_iload_n hx hb dL_law_28 rfl (lv_at hl 0 rfl) ?_
      refine va_sld (i := i) hx hb hX hbl hbA hH.2.2 (vp_in_iff.mpr ⟨by omega, by omega⟩) dL_law_29 ?_
      refine lv_bipush (v := 31) hx hb dL_law_30 (by decide) ?_
      refine lv_iand hx hb dL_law_32 ?_
      refine lv_topi (fun x_3 ex_3 => ?_)
      have hk_4 : (x_3.toInt < 0 ∨ 18 < x_3.toInt) ∨ x_3.toInt = 0 ∨ x_3.toInt = 1 ∨ x_3.toInt = 2 ∨ x_3.toInt = 3 ∨ x_3.toInt = 4 ∨ x_3.toInt = 5 ∨ x_3.toInt = 6 ∨ x_3.toInt = 7 ∨ x_3.toInt = 8 ∨ x_3.toInt = 9 ∨ x_3.toInt = 10 ∨ x_3.toInt = 11 ∨ x_3.toInt = 12 ∨ x_3.toInt = 13 ∨ x_3.toInt = 14 ∨ x_3.toInt = 15 ∨ x_3.toInt = 16 ∨ x_3.toInt = 17 ∨ x_3.toInt = 18 := by omega
      rcases hk_4 with hk_4 | hk_4 | hk_4 | hk_4 | hk_4 | hk_4 | hk_4 | hk_4 | hk_4 | hk_4 | hk_4 | hk_4 | hk_4 | hk_4 | hk_4 | hk_4 | hk_4 | hk_4 | hk_4 | hk_4
      · skip
        refine lv_tableOut (tgt := 858) hx hb dL_law_33 hk_4 (by decide) ?_
        obtain ⟨x_5, ex_5⟩ : ∃ y : Int32, y = i + 9 := ⟨_, rfl⟩
        have ix_5 : x_5.toInt = i.toInt + 9 := ic_add ex_5 rfl kI_9 (by omega) (by omega)
        refine lv_iinc (v := x_5) (lv' := [(3, .int x_5), (2, .ref (h 0)), (1, .ref (k 0)), (0, .ref b)]) hx hb dL_law_858 hl (k := 0) rfl (by rw [ex_5]; rfl) (by decide) rfl (fun ls hl => ?_)
        refine lv_goto (tgt := 18) hx hb dL_law_861 (by decide) ?_
        exact ih_ x_5 f rho cl_ sl_ (by omega) (by omega) hJ hro (by omega) (by omega) (by omega) _ _ _ hH (lv_sub hl [0, 1, 2, 3] rfl)
      · skip
        have jk_4 : x_3.toInt = 0 := hk_4
        refine lv_tableIn (off := 91) (tgt := 124) hx hb dL_law_33 (by rw [jk_4]; decide) (by rw [jk_4]; decide) (by rw [jk_4]; rfl) (by decide) ?_
        exact lw_c0 l hL G hgN hC C1 k h hsep hjk N_ ih_ i f rho cl_ sl_ h0_ (by omega) hJ hro hcl hsl hN_ H locs ls hH hl
      · skip
        have jk_4 : x_3.toInt = 1 := hk_4
        refine lv_tableIn (off := 114) (tgt := 147) hx hb dL_law_33 (by rw [jk_4]; decide) (by rw [jk_4]; decide) (by rw [jk_4]; rfl) (by decide) ?_
        exact lw_c1 l hL G hgN hC C1 k h hsep hjk N_ ih_ i f rho cl_ sl_ h0_ (by omega) hJ hro hcl hsl hN_ H locs ls hH hl
      · skip
        have jk_4 : x_3.toInt = 2 := hk_4
        refine lv_tableIn (off := 187) (tgt := 220) hx hb dL_law_33 (by rw [jk_4]; decide) (by rw [jk_4]; decide) (by rw [jk_4]; rfl) (by decide) ?_
        exact lw_c2 l hL G hgN hC C1 k h hsep hjk N_ ih_ i f rho cl_ sl_ h0_ (by omega) hJ hro hcl hsl hN_ H locs ls hH hl
      · skip
        have jk_4 : x_3.toInt = 3 := hk_4
        refine lv_tableIn (off := 230) (tgt := 263) hx hb dL_law_33 (by rw [jk_4]; decide) (by rw [jk_4]; decide) (by rw [jk_4]; rfl) (by decide) ?_
        exact lw_c3 l hL G hgN hC C1 k h hsep hjk N_ ih_ i f rho cl_ sl_ h0_ (by omega) hJ hro hcl hsl hN_ H locs ls hH hl
      · skip
        have jk_4 : x_3.toInt = 4 := hk_4
        refine lv_tableIn (off := 273) (tgt := 306) hx hb dL_law_33 (by rw [jk_4]; decide) (by rw [jk_4]; decide) (by rw [jk_4]; rfl) (by decide) ?_
        exact lw_c4 l hL G hgN hC C1 k h hsep hjk N_ ih_ i f rho cl_ sl_ h0_ (by omega) hJ hro hcl hsl hN_ H locs ls hH hl
      · skip
        have jk_4 : x_3.toInt = 5 := hk_4
        refine lv_tableIn (off := 392) (tgt := 425) hx hb dL_law_33 (by rw [jk_4]; decide) (by rw [jk_4]; decide) (by rw [jk_4]; rfl) (by decide) ?_
        exact lw_c5 l hL G hgN hC C1 k h hsep hjk N_ ih_ i f rho cl_ sl_ h0_ (by omega) hJ hro hcl hsl hN_ H locs ls hH hl
      · skip
        have jk_4 : x_3.toInt = 6 := hk_4
        refine lv_tableIn (off := 415) (tgt := 448) hx hb dL_law_33 (by rw [jk_4]; decide) (by rw [jk_4]; decide) (by rw [jk_4]; rfl) (by decide) ?_
        exact lw_c6 l hL G hgN hC C1 k h hsep hjk N_ ih_ i f rho cl_ sl_ h0_ (by omega) hJ hro hcl hsl hN_ H locs ls hH hl
      · skip
        have jk_4 : x_3.toInt = 7 := hk_4
        refine lv_tableIn (off := 488) (tgt := 521) hx hb dL_law_33 (by rw [jk_4]; decide) (by rw [jk_4]; decide) (by rw [jk_4]; rfl) (by decide) ?_
        exact lw_c7 l hL G hgN hC C1 k h hsep hjk N_ ih_ i f rho cl_ sl_ h0_ (by omega) hJ hro hcl hsl hN_ H locs ls hH hl
      · skip
        have jk_4 : x_3.toInt = 8 := hk_4
        refine lv_tableIn (off := 501) (tgt := 534) hx hb dL_law_33 (by rw [jk_4]; decide) (by rw [jk_4]; decide) (by rw [jk_4]; rfl) (by decide) ?_
        exact lw_c8 l hL G hgN hC C1 k h hsep hjk N_ ih_ i f rho cl_ sl_ h0_ (by omega) hJ hro hcl hsl hN_ H locs ls hH hl
      · skip
        have jk_4 : x_3.toInt = 9 := hk_4
        refine lv_tableIn (off := 514) (tgt := 547) hx hb dL_law_33 (by rw [jk_4]; decide) (by rw [jk_4]; decide) (by rw [jk_4]; rfl) (by decide) ?_
        exact lw_c9 l hL G hgN hC C1 k h hsep hjk N_ ih_ i f rho cl_ sl_ h0_ (by omega) hJ hro hcl hsl hN_ H locs ls hH hl
      · skip
        have jk_4 : x_3.toInt = 10 := hk_4
        refine lv_tableIn (off := 547) (tgt := 580) hx hb dL_law_33 (by rw [jk_4]; decide) (by rw [jk_4]; decide) (by rw [jk_4]; rfl) (by decide) ?_
        exact lw_c10 l hL G hgN hC C1 k h hsep hjk N_ ih_ i f rho cl_ sl_ h0_ (by omega) hJ hro hcl hsl hN_ H locs ls hH hl
      · skip
        have jk_4 : x_3.toInt = 11 := hk_4
        refine lv_tableIn (off := 570) (tgt := 603) hx hb dL_law_33 (by rw [jk_4]; decide) (by rw [jk_4]; decide) (by rw [jk_4]; rfl) (by decide) ?_
        exact lw_c11 l hL G hgN hC C1 k h hsep hjk N_ ih_ i f rho cl_ sl_ h0_ (by omega) hJ hro hcl hsl hN_ H locs ls hH hl
      · skip
        have jk_4 : x_3.toInt = 12 := hk_4
        refine lv_tableIn (off := 593) (tgt := 626) hx hb dL_law_33 (by rw [jk_4]; decide) (by rw [jk_4]; decide) (by rw [jk_4]; rfl) (by decide) ?_
        exact lw_c12 l hL G hgN hC C1 k h hsep hjk N_ ih_ i f rho cl_ sl_ h0_ (by omega) hJ hro hcl hsl hN_ H locs ls hH hl
      · skip
        have jk_4 : x_3.toInt = 13 := hk_4
        refine lv_tableIn (off := 616) (tgt := 649) hx hb dL_law_33 (by rw [jk_4]; decide) (by rw [jk_4]; decide) (by rw [jk_4]; rfl) (by decide) ?_
        exact lw_c13 l hL G hgN hC C1 k h hsep hjk N_ ih_ i f rho cl_ sl_ h0_ (by omega) hJ hro hcl hsl hN_ H locs ls hH hl
      · skip
        have jk_4 : x_3.toInt = 14 := hk_4
        refine lv_tableIn (off := 639) (tgt := 672) hx hb dL_law_33 (by rw [jk_4]; decide) (by rw [jk_4]; decide) (by rw [jk_4]; rfl) (by decide) ?_
        exact lw_c14 l hL G hgN hC C1 k h hsep hjk N_ ih_ i f rho cl_ sl_ h0_ (by omega) hJ hro hcl hsl hN_ H locs ls hH hl
      · skip
        have jk_4 : x_3.toInt = 15 := hk_4
        refine lv_tableIn (off := 662) (tgt := 695) hx hb dL_law_33 (by rw [jk_4]; decide) (by rw [jk_4]; decide) (by rw [jk_4]; rfl) (by decide) ?_
        exact lw_c15 l hL G hgN hC C1 k h hsep hjk N_ ih_ i f rho cl_ sl_ h0_ (by omega) hJ hro hcl hsl hN_ H locs ls hH hl
      · skip
        have jk_4 : x_3.toInt = 16 := hk_4
        refine lv_tableIn (off := 735) (tgt := 768) hx hb dL_law_33 (by rw [jk_4]; decide) (by rw [jk_4]; decide) (by rw [jk_4]; rfl) (by decide) ?_
        exact lw_c16 l hL G hgN hC C1 k h hsep hjk N_ ih_ i f rho cl_ sl_ h0_ (by omega) hJ hro hcl hsl hN_ H locs ls hH hl
      · skip
        have jk_4 : x_3.toInt = 17 := hk_4
        refine lv_tableIn (off := 789) (tgt := 822) hx hb dL_law_33 (by rw [jk_4]; decide) (by rw [jk_4]; decide) (by rw [jk_4]; rfl) (by decide) ?_
        exact lw_c17 l hL G hgN hC C1 k h hsep hjk N_ ih_ i f rho cl_ sl_ h0_ (by omega) hJ hro hcl hsl hN_ H locs ls hH hl
      · skip
        have jk_4 : x_3.toInt = 18 := hk_4
        refine lv_tableIn (off := 802) (tgt := 835) hx hb dL_law_33 (by rw [jk_4]; decide) (by rw [jk_4]; decide) (by rw [jk_4]; rfl) (by decide) ?_
        exact lw_c18 l hL G hgN hC C1 k h hsep hjk N_ ih_ i f rho cl_ sl_ h0_ (by omega) hJ hro hcl hsl hN_ H locs ls hH hl
