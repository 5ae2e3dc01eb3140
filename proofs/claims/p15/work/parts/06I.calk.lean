theorem sameF_c {t j : Nat} {c1 d1 c2 d2 : tB} (h1 : sameF t j c1 d1) (h2 : sameF t j c2 d2) : sameF t j c1 c2 ↔ sameF t j d1 d2 :=
  ⟨fun h => ⟨h1.1.symm.trans (h.1.trans h2.1), fun h3 i hi => (h1.2 h3 i hi).symm.trans ((h.2 h3 i hi).trans (h2.2 h3 i hi))⟩, fun h => ⟨h1.1.trans (h.1.trans h2.1.symm), fun h3 i hi => (h1.2 h3 i hi).trans ((h.2 h3 i hi).trans (h2.2 h3 i hi).symm)⟩⟩
