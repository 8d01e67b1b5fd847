theorem Rel.mono {N M : Nat} {cs cw ct cl cb mm : St} (h : Rel N cs cw ct cl cb mm) (h1 : N ≤ M) (h2 : M ≤ 100000) : Rel M cs cw ct cl cb mm := by
  obtain ⟨p1, p2, p3, p4, p5, p6, p7, p8, p9, c1, c2, c3, c4, c5, c6, c7, c8, c9, c10⟩ := h
  refine ⟨p1, p2, p3, p4, p5, ⟨h2, ?_, p6.2.2⟩, p7, ?_, p9, c1, c2, c3, c4, c5, c6, c7, c8, c9, c10⟩
  · obtain ⟨n, hn, e⟩ := p6.2.1
    exact ⟨n, by omega, e⟩
  · intro k hk
    obtain ⟨d1, d2, d3, ⟨e, he, ee⟩, d5, d6, d7, d8, q, hq, eq, d9⟩ := p8 k hk
    exact ⟨d1, d2, d3, ⟨e, by omega, ee⟩, d5, d6, d7, d8, q, by omega, eq, d9⟩
