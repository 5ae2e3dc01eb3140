theorem IM.some {G : mG} {h : Nat → Nat} {n : Nat} {T : Nat → Int32} {z : Nat → Nat} {A : Nat → tA} {f : mF} (hI : IM G h n T z A f) (j : Nat) (hj : j < 30) (hr : rM j = true) : ∃ e, f (h j) = some e := by
  have hp := hI.1 j hj
  rcases rM_rest j hj hr with rfl | rfl | rfl | rfl | rfl | rfl | rfl | rfl | rfl | rfl | rfl | rfl | rfl | rfl | rfl | rfl | rfl | rfl | rfl | rfl
  · obtain ⟨_, _, _, _, _, _, _, _, _, _, q, -⟩ : okM0 h n (f (h 0)) := hp
    exact ⟨_, q⟩
  · obtain ⟨_, q, -⟩ : okI G 0 24 (fun g => ∀ o, o < n → g o = T o) (f (h 1)) := hp
    exact ⟨_, q⟩
  · obtain ⟨_, q, -⟩ : okJ G 8064 (pNu n T) (f (h 3)) := hp
    exact ⟨_, q⟩
  · obtain ⟨_, q, -⟩ : okI G 0 8064 (fun g => ∀ L, L < 8064 → (g L).toInt ≤ 8) (f (h 4)) := hp
    exact ⟨_, q⟩
  · obtain ⟨_, q, -⟩ : okI G 0 64512 (fun _ => True) (f (h 5)) := hp
    exact ⟨_, q⟩
  · obtain ⟨_, q, -⟩ : okI G 2 24 (fun _ => True) (f (h 6)) := hp
    exact ⟨_, q⟩
  · obtain ⟨_, q, -⟩ : okI G 0 192 (fun _ => True) (f (h 8)) := hp
    exact ⟨_, q⟩
  · obtain ⟨_, q, -⟩ : okI G 0 6 (fun g => ∀ b, b < 6 → g b = nI (z b)) (f (h 9)) := hp
    exact ⟨_, q⟩
  · obtain ⟨_, q, -⟩ : okI G 0 192 (fun g => ∀ k, vld z k → g k = (A k).1) (f (h 10)) := hp
    exact ⟨_, q⟩
  · obtain ⟨_, q, -⟩ : okI G 0 192 (fun g => ∀ k, vld z k → g k = (A k).2.1) (f (h 11)) := hp
    exact ⟨_, q⟩
  · obtain ⟨_, q, -⟩ : okJ G 192 (fun g => ∀ k, vld z k → g k = (A k).2.2.1) (f (h 12)) := hp
    exact ⟨_, q⟩
  · obtain ⟨_, q, -⟩ : okI G 0 192 (fun g => ∀ k, vld z k → g k = (A k).2.2.2.1) (f (h 13)) := hp
    exact ⟨_, q⟩
  · obtain ⟨_, q, -⟩ : okI G 0 192 (fun g => ∀ k, vld z k → g k = (A k).2.2.2.2.1) (f (h 14)) := hp
    exact ⟨_, q⟩
  · obtain ⟨_, q, -⟩ : okI G 0 192 (fun g => ∀ k, vld z k → g k = (A k).2.2.2.2.2) (f (h 15)) := hp
    exact ⟨_, q⟩
  · obtain ⟨_, q, -⟩ : okI G 0 400 (fun _ => True) (f (h 20)) := hp
    exact ⟨_, q⟩
  · obtain ⟨_, q, -⟩ : okI G 0 400 (fun _ => True) (f (h 21)) := hp
    exact ⟨_, q⟩
  · obtain ⟨_, q, -⟩ : okI G 0 192 (fun _ => True) (f (h 23)) := hp
    exact ⟨_, q⟩
  · obtain ⟨_, q, -⟩ : okI G 2 24 (fun _ => True) (f (h 24)) := hp
    exact ⟨_, q⟩
  · obtain ⟨_, q, -⟩ : okI G 0 4 (fun g => ∀ i, i < 4 → -3 ≤ (g i).toInt ∧ ((g i).toInt < n ∨ (n = 0 ∧ (g i).toInt = 0))) (f (h 26)) := hp
    exact ⟨_, q⟩
  · obtain ⟨_, q, -⟩ : okJ G 4 (fun _ => True) (f (h 27)) := hp
    exact ⟨_, q⟩
theorem keepM {G : mG} {k h : Nat → Nat} {rho rho2 : tR} {n : Nat} {T : Nat → Nat} {T2 : Nat → Int32} {z : Nat → Nat} {A : Nat → tA} {st : Nat → Bool} {f f2 : mF} (hM : IM G h n T2 z A f) (hjk : ∀ j, j < 30 → rM j = false → h j = h 0) (hsep : ∀ i j, i < 41 → j < 30 → k i ≠ h j) (hro : ∀ j, j < 30 → (rho (h j)).1 = 0) (hfr : frC k rho f rho2 f2) : (∀ j, j < 30 → f2 (h j) = f (h j)) ∧ ∀ j, j < 30 → (rho2 (h j)).1 = 0 := by
  have key : ∀ j, j < 30 → ∃ e, f (h j) = some e := by
    intro j hj
    cases hr : rM j with
    | true => exact hM.some j hj hr
    | false => rw [hjk j hj hr]; exact hM.some 0 (by decide) rfl
  refine ⟨fun j hj => ?_, fun j hj => ?_⟩
  · obtain ⟨e, he⟩ := key j hj
    rw [he]
    exact (hfr _ _ he).2.2 (fun i hi => Ne.symm (hsep i j hi hj)) (Or.inl (hro j hj))
  · obtain ⟨e, he⟩ := key j hj
    rw [(hfr _ _ he).2.1]
    exact hro j hj
theorem keepC1 {k h : Nat → Nat} {f f2 : mF} (hsep : ∀ i j, i < 41 → j < 30 → k i ≠ h j) (hfr : frM h f f2) : ∀ j, j < 41 → f2 (k j) = f (k j) := fun j hj => hfr _ (fun q hq => hsep j q hj hq)
theorem keepC2 {h : Nat → Nat} {rho : tR} {f f2 : mF} (hro : ∀ j, j < 30 → (rho (h j)).1 = 0) (hfr : frM h f f2) : ∀ a, (rho a).1 ≠ 0 → f2 a = f a := fun a ha => hfr _ (fun q hq e => ha (by rw [e]; exact hro q hq))
theorem join_obj {G : mG} {k h : Nat → Nat} {rho : tR} {n : Nat} {T : Nat → Nat} {T2 : Nat → Int32} {z : Nat → Nat} {A : Nat → tA} {st : Nat → Bool} {f1 f2 : mF} {r1 r2 : Int32} {ty : Int32} (h1 : ((ty.toInt < 0 ∨ 3 ≤ ty.toInt) ∧ r1.toInt = -1 ∧ IC G k rho n T z st f1) ∨ (0 ≤ ty.toInt ∧ ty.toInt < 3 ∧ n = 24 ∧ r1.toInt = -2 ∧ IC G k rho n T z st f1) ∨ (0 ≤ ty.toInt ∧ ty.toInt < 3 ∧ n < 24 ∧ r1.toInt = n ∧ IC G k rho (n + 1) (fun o => if o = n then ty.toNatClampNeg else T o) z st f1)) (h2 : ((ty.toInt < 0 ∨ 3 ≤ ty.toInt) ∧ r2.toInt = -1 ∧ IM G h n T2 z A f2) ∨ (0 ≤ ty.toInt ∧ ty.toInt < 3 ∧ n = 24 ∧ r2.toInt = -2 ∧ IM G h n T2 z A f2) ∨ (0 ≤ ty.toInt ∧ ty.toInt < 3 ∧ n < 24 ∧ r2.toInt = n ∧ IM G h (n + 1) (upd T2 n ty) z A f2)) (kc : ∀ (n : Nat) (T z : Nat → Nat) (st : Nat → Bool), IC G k rho n T z st f1 → IC G k rho n T z st f2) : ∃ (n2 : Nat) (Ta : Nat → Nat) (Tb : Nat → Int32), r1.toInt = r2.toInt ∧ IC G k rho n2 Ta z st f2 ∧ IM G h n2 Tb z A f2 := by
  rcases h1 with ⟨a1, a2, a3⟩ | ⟨a1, a2, a3, a4, a5⟩ | ⟨a1, a2, a3, a4, a5⟩ <;> rcases h2 with ⟨b1, b2, b3⟩ | ⟨b1, b2, b3, b4, b5⟩ | ⟨b1, b2, b3, b4, b5⟩
  · exact ⟨_, _, _, by omega, kc _ _ _ _ a3, b3⟩
  · omega
  · omega
  · omega
  · exact ⟨_, _, _, by omega, kc _ _ _ _ a5, b5⟩
  · omega
  · omega
  · omega
  · exact ⟨_, _, _, by omega, kc _ _ _ _ a5, b5⟩
theorem join_act {G : mG} {k h : Nat → Nat} {rho : tR} {n : Nat} {T : Nat → Nat} {T2 : Nat → Int32} {z : Nat → Nat} {A : Nat → tA} {st : Nat → Bool} {f1 f2 : mF} {r1 r2 : Int32} {b kd a : Int32} {bb : Int64} {c_ d_ e_ : Int32} (h1 : (¬ (0 ≤ b.toInt ∧ b.toInt < 6 ∧ okA (kd, a, bb, c_, d_, e_)) ∧ r1.toInt = -1 ∧ IC G k rho n T z st f1) ∨ (((0 ≤ b.toInt ∧ b.toInt < 6 ∧ okA (kd, a, bb, c_, d_, e_)) ∧ z b.toNatClampNeg = 32 ∧ r1.toInt = -2 ∧ IC G k rho n T z st f1) ∨ ((0 ≤ b.toInt ∧ b.toInt < 6 ∧ okA (kd, a, bb, c_, d_, e_)) ∧ z b.toNatClampNeg < 32 ∧ r1.toInt = z b.toNatClampNeg ∧ IC G k rho n T (fun q => if q = b.toNatClampNeg then z q + 1 else z q) st f1))) (h2 : (¬ (0 ≤ b.toInt ∧ b.toInt < 6 ∧ okA (kd, a, bb, c_, d_, e_)) ∧ r2.toInt = -1 ∧ IM G h n T2 z A f2) ∨ ((0 ≤ b.toInt ∧ b.toInt < 6 ∧ okA (kd, a, bb, c_, d_, e_)) ∧ z b.toNatClampNeg = 32 ∧ r2.toInt = -2 ∧ IM G h n T2 z A f2) ∨ ((0 ≤ b.toInt ∧ b.toInt < 6 ∧ okA (kd, a, bb, c_, d_, e_)) ∧ z b.toNatClampNeg < 32 ∧ r2.toInt = z b.toNatClampNeg ∧ IM G h n T2 (fun q => if q = b.toNatClampNeg then z q + 1 else z q) (fun q => if q = 32 * b.toNatClampNeg + z b.toNatClampNeg then (kd, a, bb, c_, d_, e_) else A q) f2)) (kc : ∀ (n : Nat) (T z : Nat → Nat) (st : Nat → Bool), IC G k rho n T z st f1 → IC G k rho n T z st f2) : (∃ (z2 : Nat → Nat) (A2 : Nat → tA), r1.toInt = r2.toInt ∧ IC G k rho n T z2 st f2 ∧ IM G h n T2 z2 A2 f2) := by
  rcases h1 with ⟨a1, a2, a3⟩ | ⟨a1, a2, a3, a4⟩ | ⟨a1, a2, a3, a4⟩ <;> rcases h2 with ⟨b1, b2, b3⟩ | ⟨b1, b2, b3, b4⟩ | ⟨b1, b2, b3, b4⟩
  · exact ⟨_, _, by omega, kc _ _ _ _ a3, b3⟩
  · exact absurd b1 a1
  · exact absurd b1 a1
  · exact absurd a1 b1
  · exact ⟨_, _, by omega, kc _ _ _ _ a4, b4⟩
  · omega
  · exact absurd a1 b1
  · omega
  · exact ⟨_, _, by omega, kc _ _ _ _ a4, b4⟩
theorem join_clr {G : mG} {k h : Nat → Nat} {rho : tR} {n : Nat} {T : Nat → Nat} {T2 : Nat → Int32} {z : Nat → Nat} {A : Nat → tA} {st : Nat → Bool} {f1 f2 : mF} {r1 r2 : Int32} {b : Int32} (h1 : ((b.toInt < 0 ∨ 6 ≤ b.toInt) ∧ r1.toInt = -1 ∧ IC G k rho n T z st f1) ∨ (0 ≤ b.toInt ∧ b.toInt < 6 ∧ r1.toInt = z b.toNatClampNeg ∧ IC G k rho n T (fun q => if q = b.toNatClampNeg then 0 else z q) st f1)) (h2 : ((b.toInt < 0 ∨ 6 ≤ b.toInt) ∧ r2.toInt = -1 ∧ IM G h n T2 z A f2) ∨ (0 ≤ b.toInt ∧ b.toInt < 6 ∧ r2.toInt = z b.toNatClampNeg ∧ IM G h n T2 (fun q => if q = b.toNatClampNeg then 0 else z q) A f2)) (kc : ∀ (n : Nat) (T z : Nat → Nat) (st : Nat → Bool), IC G k rho n T z st f1 → IC G k rho n T z st f2) : (∃ (z2 : Nat → Nat) (A2 : Nat → tA), r1.toInt = r2.toInt ∧ IC G k rho n T z2 st f2 ∧ IM G h n T2 z2 A2 f2) := by
  rcases h1 with ⟨a1, a2, a3⟩ | ⟨a1, a2, a3, a4⟩ <;> rcases h2 with ⟨b1, b2, b3⟩ | ⟨b1, b2, b3, b4⟩
  · exact ⟨_, _, by omega, kc _ _ _ _ a3, b3⟩
  · omega
  · omega
  · exact ⟨_, _, by omega, kc _ _ _ _ a4, b4⟩
def pmC : List Nat := [40, 39, 38, 13, 12, 37, 36, 35, 34, 33, 32, 31, 30, 29, 28, 27, 26, 25, 24, 23, 22, 21, 20, 19, 18, 17, 16, 15, 14, 11, 10, 9, 8, 7, 6, 5, 4, 3, 2, 1, 0]
theorem pmC_inj : ∀ i, i < 41 → ∀ j, j < 41 → pmC.getD i 0 = pmC.getD j 0 → i = j := by decide +kernel
theorem pmC_lt : ∀ i, i < 41 → pmC.getD i 0 < 41 := by decide +kernel
set_option maxHeartbeats 4000000 in
set_option maxRecDepth 100000 in
theorem c5_mk {G : mG} {f f2 : mF} {q : Nat} {a0_ a1_ a2_ a3_ a4_ a5_ a6_ a7_ a8_ a9_ a10_ a11_ a12_ a13_ a14_ a15_ a16_ a17_ a18_ a19_ a20_ a21_ a22_ a23_ a24_ a25_ a26_ a27_ a28_ a29_ a30_ a31_ a32_ a33_ a34_ a35_ a36_ a37_ a38_ a39_ : Nat} (Fq : f2 q = some (.inr (5, [.ref a0_, .int 0, .int 0, .ref a1_, .ref a2_, .ref a10_, .ref a18_, .int 0, .int 0, .int 0, .ref a26_, .int 0, .ref a27_, .int (-1)]))) (hL : inL q f [(a39_, .inl (gk G 5, 32, .inr (.inr (.inr (.inr (fun _ => none)))))), (a38_, .inr (1, [.ref a39_, .int 0])), (a37_, .inl (gk G 5, 32, .inr (.inr (.inr (.inr (fun _ => none)))))), (a36_, .inr (1, [.ref a37_, .int 0])), (a35_, .inl (gk G 5, 32, .inr (.inr (.inr (.inr (fun _ => none)))))), (a34_, .inr (1, [.ref a35_, .int 0])), (a33_, .inl (gk G 5, 32, .inr (.inr (.inr (.inr (fun _ => none)))))), (a32_, .inr (1, [.ref a33_, .int 0])), (a31_, .inl (gk G 5, 32, .inr (.inr (.inr (.inr (fun _ => none)))))), (a30_, .inr (1, [.ref a31_, .int 0])), (a29_, .inl (gk G 5, 32, .inr (.inr (.inr (.inr (fun _ => none)))))), (a28_, .inr (1, [.ref a29_, .int 0])), (a27_, .inl (gk G 0, 192, .inl (fun _ => 0))), (a26_, .inl (gk G 0, 192, .inl (fun _ => 0))), (a25_, .inl (gk G 1, 4, .inr (.inl (fun _ => 0)))), (a24_, .inl (gk G 0, 4, .inl (fun _ => 0))), (a23_, .inl (gk G 3, 24, .inr (.inr (.inr (.inr (fun _ => none)))))), (a22_, .inl (gk G 0, 24, .inl (fun _ => 0))), (a21_, .inl (gk G 0, 24, .inl (fun _ => 0))), (a20_, .inl (gk G 0, 384, .inl (fun _ => 0))), (a19_, .inr (4, [.ref a20_, .int 0, .int 0, .ref a21_, .ref a22_])), (a18_, .inr (3, [.ref a19_, .int 0, .int 0, .long 0, .int 0, .int (-3), .null, .ref a23_, .ref a24_, .ref a25_, .int 0])), (a17_, .inl (gk G 1, 4, .inr (.inl (fun _ => 0)))), (a16_, .inl (gk G 0, 4, .inl (fun _ => 0))), (a15_, .inl (gk G 3, 24, .inr (.inr (.inr (.inr (fun _ => none)))))), (a14_, .inl (gk G 0, 24, .inl (fun _ => 0))), (a13_, .inl (gk G 0, 24, .inl (fun _ => 0))), (a12_, .inl (gk G 0, 384, .inl (fun _ => 0))), (a11_, .inr (4, [.ref a12_, .int 0, .int 0, .ref a13_, .ref a14_])), (a10_, .inr (3, [.ref a11_, .int 0, .int 0, .long 0, .int 0, .int (-3), .null, .ref a15_, .ref a16_, .ref a17_, .int 0])), (a9_, .inl (gk G 1, 4, .inr (.inl (fun _ => 0)))), (a8_, .inl (gk G 0, 4, .inl (fun _ => 0))), (a7_, .inl (gk G 3, 24, .inr (.inr (.inr (.inr (fun _ => none)))))), (a6_, .inl (gk G 0, 24, .inl (fun _ => 0))), (a5_, .inl (gk G 0, 24, .inl (fun _ => 0))), (a4_, .inl (gk G 0, 384, .inl (fun _ => 0))), (a3_, .inr (4, [.ref a4_, .int 0, .int 0, .ref a5_, .ref a6_])), (a2_, .inr (3, [.ref a3_, .int 0, .int 0, .long 0, .int 0, .int (-3), .null, .ref a7_, .ref a8_, .ref a9_, .int 0])), (a1_, .inl (gk G 4, 6, .inr (.inr (.inr (.inr (va_up (va_up (va_up (va_up (va_up (va_up (fun _ => none) (0 : Int32).toNatClampNeg (some a28_)) (1 : Int32).toNatClampNeg (some a30_)) (2 : Int32).toNatClampNeg (some a32_)) (3 : Int32).toNatClampNeg (some a34_)) (4 : Int32).toNatClampNeg (some a36_)) (5 : Int32).toNatClampNeg (some a38_))))))), (a0_, .inl (gk G 3, 24, .inr (.inr (.inr (.inr (fun _ => none))))))] f2) : ∃ k : Nat → Nat, k 0 = q ∧ IC G k (fun _ => (0, 0)) 0 (fun _ => 0) (fun _ => 0) (fun _ => false) f2 := by
  have hs : ([a39_, a38_, a37_, a36_, a35_, a34_, a33_, a32_, a31_, a30_, a29_, a28_, a27_, a26_, a25_, a24_, a23_, a22_, a21_, a20_, a19_, a18_, a17_, a16_, a15_, a14_, a13_, a12_, a11_, a10_, a9_, a8_, a7_, a6_, a5_, a4_, a3_, a2_, a1_, a0_, q] : List Nat).Pairwise (fun x y => y < x) := hL.sorted
  refine ⟨fun j => ([a39_, a38_, a37_, a36_, a35_, a34_, a33_, a32_, a31_, a30_, a29_, a28_, a27_, a26_, a25_, a24_, a23_, a22_, a21_, a20_, a19_, a18_, a17_, a16_, a15_, a14_, a13_, a12_, a11_, a10_, a9_, a8_, a7_, a6_, a5_, a4_, a3_, a2_, a1_, a0_, q] : List Nat).getD (pmC.getD j 0) 0, rfl, ?_⟩
  refine IC.mk0 (fun i j hi hj e => pmC_inj i hi j hj (getD_inj hs (pmC_lt i hi) (pmC_lt j hj) e)) Fq (hL.at 39 rfl) (hL.at 38 rfl) (hL.at 13 rfl) (hL.at 12 rfl) (hL.at 37 rfl) (hL.at 36 rfl) (hL.at 35 rfl) (hL.at 34 rfl) (hL.at 33 rfl) (hL.at 32 rfl) (hL.at 31 rfl) (hL.at 30 rfl) (hL.at 29 rfl) (hL.at 28 rfl) (hL.at 27 rfl) (hL.at 26 rfl) (hL.at 25 rfl) (hL.at 24 rfl) (hL.at 23 rfl) (hL.at 22 rfl) (hL.at 21 rfl) (hL.at 20 rfl) (hL.at 19 rfl) (hL.at 18 rfl) (hL.at 17 rfl) (hL.at 16 rfl) (hL.at 15 rfl) (hL.at 14 rfl) (hL.at 11 rfl) (hL.at 10 rfl) (hL.at 9 rfl) (hL.at 8 rfl) (hL.at 7 rfl) (hL.at 6 rfl) (hL.at 5 rfl) (hL.at 4 rfl) (hL.at 3 rfl) (hL.at 2 rfl) (hL.at 1 rfl) (hL.at 0 rfl)
def pmM : List Nat := [19, 18, 19, 17, 16, 15, 14, 19, 13, 12, 11, 10, 9, 8, 7, 6, 19, 19, 19, 19, 5, 4, 19, 3, 2, 19, 1, 0, 19, 19]
theorem pmM_inj : ∀ i, i < 30 → ∀ j, j < 30 → pmM.getD i 0 = pmM.getD j 0 → rM i = true → rM j = true → i = j := by decide +kernel
theorem pmM_lt : ∀ i, i < 30 → pmM.getD i 0 < 20 := by decide +kernel
theorem pmM_0 : ∀ j, j < 30 → rM j = false → pmM.getD j 0 = 19 := by decide +kernel
set_option maxHeartbeats 4000000 in
set_option maxRecDepth 100000 in
theorem c6_mk {G : mG} {f f2 : mF} {q : Nat} {a0_ a1_ a2_ a3_ a4_ a5_ a6_ a7_ a8_ a9_ a10_ a11_ a12_ a13_ a14_ a15_ a16_ a17_ a18_ : Nat} (Fq : f2 q = some (.inr (6, [.int 0, .ref a0_, .int 0, .ref a1_, .ref a2_, .ref a3_, .ref a4_, .int 0, .ref a5_, .ref a6_, .ref a7_, .ref a8_, .ref a9_, .ref a10_, .ref a11_, .ref a12_, .int 0, .long 0, .int (-3), .int 0, .ref a13_, .ref a14_, .int 0, .ref a15_, .ref a16_, .int 0, .ref a17_, .ref a18_, .int 0, .int 0]))) (hL : inL q f [(a18_, .inl (gk G 1, 4, .inr (.inl (fun _ => 0)))), (a17_, .inl (gk G 0, 4, .inl (fun _ => 0))), (a16_, .inl (gk G 2, 24, .inl (fun _ => 0))), (a15_, .inl (gk G 0, 192, .inl (fun _ => 0))), (a14_, .inl (gk G 0, 400, .inl (fun _ => 0))), (a13_, .inl (gk G 0, 400, .inl (fun _ => 0))), (a12_, .inl (gk G 0, 192, .inl (fun _ => 0))), (a11_, .inl (gk G 0, 192, .inl (fun _ => 0))), (a10_, .inl (gk G 0, 192, .inl (fun _ => 0))), (a9_, .inl (gk G 1, 192, .inr (.inl (fun _ => 0)))), (a8_, .inl (gk G 0, 192, .inl (fun _ => 0))), (a7_, .inl (gk G 0, 192, .inl (fun _ => 0))), (a6_, .inl (gk G 0, 6, .inl (fun _ => 0))), (a5_, .inl (gk G 0, 192, .inl (fun _ => 0))), (a4_, .inl (gk G 2, 24, .inl (fun _ => 0))), (a3_, .inl (gk G 0, 64512, .inl (fun _ => 0))), (a2_, .inl (gk G 0, 8064, .inl (fun _ => 0))), (a1_, .inl (gk G 1, 8064, .inr (.inl (fun _ => 0)))), (a0_, .inl (gk G 0, 24, .inl (fun _ => 0)))] f2) : ∃ h : Nat → Nat, h 0 = q ∧ IM G h 0 (fun _ => 0) (fun _ => 0) (fun _ => (0, 0, 0, 0, 0, 0)) f2 ∧ (∀ j, j < 30 → rM j = false → h j = h 0) ∧ ∀ j, j < 30 → h j = q ∨ f (h j) = none := by
  have hs : ([a18_, a17_, a16_, a15_, a14_, a13_, a12_, a11_, a10_, a9_, a8_, a7_, a6_, a5_, a4_, a3_, a2_, a1_, a0_, q] : List Nat).Pairwise (fun x y => y < x) := hL.sorted
  refine ⟨fun j => ([a18_, a17_, a16_, a15_, a14_, a13_, a12_, a11_, a10_, a9_, a8_, a7_, a6_, a5_, a4_, a3_, a2_, a1_, a0_, q] : List Nat).getD (pmM.getD j 0) 0, rfl, ?_, ?_, ?_⟩
  · refine IM.mk0 (fun i j hi hj e h1 h2 => pmM_inj i hi j hj (getD_inj hs (pmM_lt i hi) (pmM_lt j hj) e) h1 h2) Fq (hL.at 18 rfl) (hL.at 17 rfl) (hL.at 16 rfl) (hL.at 15 rfl) (hL.at 14 rfl) (hL.at 13 rfl) (hL.at 12 rfl) (hL.at 11 rfl) (hL.at 10 rfl) (hL.at 9 rfl) (hL.at 8 rfl) (hL.at 7 rfl) (hL.at 6 rfl) (hL.at 5 rfl) (hL.at 4 rfl) (hL.at 3 rfl) (hL.at 2 rfl) (hL.at 1 rfl) (hL.at 0 rfl)
  · intro j hj hr
    show ([a18_, a17_, a16_, a15_, a14_, a13_, a12_, a11_, a10_, a9_, a8_, a7_, a6_, a5_, a4_, a3_, a2_, a1_, a0_, q] : List Nat).getD (pmM.getD j 0) 0 = q
    rw [pmM_0 j hj hr]
    rfl
  · intro j hj
    by_cases h19 : pmM.getD j 0 = 19
    · left
      show ([a18_, a17_, a16_, a15_, a14_, a13_, a12_, a11_, a10_, a9_, a8_, a7_, a6_, a5_, a4_, a3_, a2_, a1_, a0_, q] : List Nat).getD (pmM.getD j 0) 0 = q
      rw [h19]
      rfl
    · right
      exact getD_map hL _ (by have := pmM_lt j hj; show pmM.getD j 0 < 20; omega) h19
