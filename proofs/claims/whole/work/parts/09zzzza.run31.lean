section
/-! run: settling. What holds when it is over -/
theorem WB.fr {I I2 : xTI} {s s2 : Nat → Int32} {q : Nat → Nat} (h : WB I s q) (h13 : I2 13 = I 13) (hs : ∀ j, 192 ≤ j → j < 912 → s2 j = s j) : WB I2 s2 q := fun b hb => by
  have hc : ∀ t, t < 12 → s2 (192 + 12 * b + t) = s (192 + 12 * b + t) := fun t ht => hs _ (by omega) (by omega)
  have hc0 : s2 (192 + 12 * b) = s (192 + 12 * b) := hc 0 (by decide)
  rw [hc0, hc 1 (by decide), hc 2 (by decide), hc 3 (by decide), hc 8 (by decide), h13]
  rcases h b hb with g | ⟨g1, g2, g3⟩
  · exact Or.inl g
  · exact Or.inr ⟨g1, fun t ht => by rw [show 192 + 12 * b + 1 + t = 192 + 12 * b + (1 + t) by omega, hc (1 + t) (by omega), ← Nat.add_assoc]; exact g2 t ht, g3⟩
theorem rcv_congr {s s2 : Nat → Int32} (h : ∀ j, 4670 ≤ j → s2 j = s j) : ∀ i j, rcv s2 i j = rcv s i j
  | 0, _ => rfl
  | i + 1, j => by
    rw [rcv, rcv, rcv_congr h i j, h _ (by omega), h _ (by omega), h _ (by omega)]
theorem rcv_z {s : Nat → Int32} {q : Nat → Nat} (hd : IVd s q) (hq1 : q 1 ≤ 12) (hq2 : q 2 ≤ 5) {m k : Nat} (hm : m < 12) (hk : k < 5) (h : q 1 ≤ m ∨ q 2 ≤ k) : ∀ i, i ≤ q 7 → rcv s i (5 * m + k) = 0
  | 0, _ => rfl
  | i + 1, hi => by
    rw [rcv, rcv_z hd hq1 hq2 hm hk h i (by omega), if_neg]
    intro z
    obtain ⟨k', f', t', sh', a0, a1, a2, a3, a4, a5, a6, a7, -⟩ := hd.1 i (by omega)
    rw [a0, a2, nI_mul, nI_add] at z
    have z' := (nI_eq (by omega) (by omega)).mp z
    omega
theorem upn_bd {s s2 : Nat → Int32} {bd : Nat → Bool} : ∀ m, (∀ x, x < m → s2 (16 + 4 * x) = (if bd x = true then 0 else s (16 + 4 * x)) ∧ (bd x = true → s (16 + 4 * x) = 1)) → upn s m = upn s2 m + SF (fun a => if bd a = true then 1 else 0) m
  | 0, _ => rfl
  | m + 1, h => by
    have ih := upn_bd m (fun x hx => h x (by omega))
    obtain ⟨h1, h2⟩ := h m (by omega)
    show upn s m + (if s (16 + 4 * m) = 1 then 1 else 0) = (upn s2 m + (if s2 (16 + 4 * m) = 1 then 1 else 0)) + (SF (fun a => if bd a = true then 1 else 0) m + if bd m = true then 1 else 0)
    rw [h1]
    by_cases c : bd m = true
    · rw [if_pos c, if_pos c, h2 c, if_pos rfl, if_neg (by decide)]; omega
    · rw [if_neg c, if_neg c]; omega
theorem fin_ok {I I2 : xTI} {s s2 : Nat → Int32} {q : Nat → Nat} {n H : Nat} {bd : Nat → Bool} (hW : BRw I s q) (hV : IVi s q n) (h12 : q 0 % 14 = 12) (hH : H + 5940 ≤ 200000 * n) (i12 : I 1 12 = 1)
    (g0 : ∀ j, j < 16 → s2 j = if j = 9 then 1 else s j)
    (gm : ∀ m, m < 12 → s2 (16 + 4 * m) = (if bd m = true then 0 else s (16 + 4 * m)) ∧ s2 (16 + 4 * m + 1) = s (16 + 4 * m + 1) ∧ s2 (16 + 4 * m + 2) = (if bd m = true then nI (q 0) else s (16 + 4 * m + 2)) ∧ s2 (16 + 4 * m + 3) = s (16 + 4 * m + 3))
    (hbd : ∀ m, m < 12 → bd m = true → m < q 1)
    (gh : ∀ j, j < 60 → ∃ h, h ≤ H + 5940 ∧ s2 (64 + j) = nI h ∧ I2 9 j = nI h)
    (gz : ∀ m k, m < 12 → k < 5 → (q 1 ≤ m ∨ q 2 ≤ k) → s2 (64 + (5 * m + k)) = 0)
    (gc : ∀ j, 124 ≤ j → j < 192 → s2 j = s j)
    (gb : ∀ j, 192 ≤ j → j < 912 → (j - 192) % 12 ≠ 8 → s2 j = s j)
    (gs : ∀ b, b < 60 → s2 (192 + 12 * b + 8) = s (192 + 12 * b + 8) ∨ s2 (192 + 12 * b + 8) = 2 ∨ s2 (192 + 12 * b + 8) = 3)
    (gu : ∀ b, b < 60 → lv s2 b → ∀ x, x < q 1 → s2 (16 + 4 * x) ≠ 1 → s (192 + 12 * b + 1) ≠ nI x ∧ s (192 + 12 * b + 2) ≠ nI x)
    (go : ∀ j, 912 ≤ j → j < 1052 → (j - 912) % 7 ≠ 6 → s2 j = s j)
    (gp : ∀ i, i < q 3 → (s2 (912 + 7 * i + 6) = s (912 + 7 * i + 6) ∨ s2 (912 + 7 * i + 6) = 2) ∧ (s2 (912 + 7 * i + 6) = 0 → ∀ x, x < q 1 → (s (912 + 7 * i) = nI x ∨ s (912 + 7 * i + 1) = nI x) → s2 (16 + 4 * x) = 1))
    (gr : ∀ j, 1052 ≤ j → s2 j = s j)
    (b8 : ∀ m, m < q 1 → I2 8 m = if bd m = true then nI (q 0) else I 8 m)
    (b13 : BRb I2 s2) (b21 : ∀ i, i < q 3 → ∀ t, t < 7 → I2 21 (7 * i + t) = s2 (912 + 7 * i + t))
    (bne : ∀ k, k ≠ 8 → k ≠ 13 → k ≠ 21 → I2 k = I k) : BRi I2 s2 (qs q 9 1) ∧ IVj s2 (qs q 9 1) n ∧ Hb s2 (H + 5940) ∧ IVd s2 (qs (qs q 9 1) 0 (q 0 + 1)) := by
  obtain ⟨w1, w2, w4, w5, w6⟩ := hW
  obtain ⟨v1, v2, v3, v4, v6, v7⟩ := hV
  have c5 : q 1 ≤ 12 := v1.2.2.1
  have c6 : q 2 ≤ 5 := v1.2.2.2.1
  have c3 : q 3 ≤ 20 := v1.2.2.2.2.1
  have c55 : q 5 ≤ 10 := v1.2.2.2.2.2.2.1
  have c7 : q 7 ≤ 120 := v1.2.2.2.2.2.2.2.2.1
  refine ⟨⟨⟨?_, ?_, ?_, ?_, ?_, ?_, ?_, ?_, ?_, ?_⟩, ⟨fun m hm => ⟨?_, ?_⟩, fun j hj => ⟨?_, ?_⟩, fun k hk => ?_⟩, b13, ⟨b21, fun i hi t ht => ?_, fun i hi h3 t ht => ?_, fun i hi t ht => ?_⟩, ?_⟩, ⟨⟨fun i hi => ?_, v1.2.1, v1.2.2.1, v1.2.2.2.1, v1.2.2.2.2.1, v1.2.2.2.2.2.1, v1.2.2.2.2.2.2.1, v1.2.2.2.2.2.2.2.1, v1.2.2.2.2.2.2.2.2.1, v1.2.2.2.2.2.2.2.2.2.1, Nat.le_refl 1⟩, ⟨fun m hm => ⟨?_, ?_, ?_⟩, fun m h1 h2 => ⟨?_, ?_⟩, fun j hj => ⟨?_, ?_⟩, gz, fun k hk => ?_⟩, fun b hb => ?_, ⟨fun i hi => ?_, fun i hi => ?_⟩, ?_⟩, fun j hj => ?_, ⟨fun i hi => ?_, ?_, fun i j hi hj => ?_⟩⟩
  · show I2 1 0 = nI (q 0)
    rw [bne 1 (by decide) (by decide) (by decide)]; exact w1.1
  · show I2 3 0 = nI (q 1)
    rw [bne 3 (by decide) (by decide) (by decide)]; exact w1.2.1
  · show I2 1 1 = nI (q 2)
    rw [bne 1 (by decide) (by decide) (by decide)]; exact w1.2.2.1
  · show I2 20 3 = nI (q 3)
    rw [bne 20 (by decide) (by decide) (by decide)]; exact w1.2.2.2.1
  · show I2 15 3 = nI (q 4)
    rw [bne 15 (by decide) (by decide) (by decide)]; exact w1.2.2.2.2.1
  · show I2 22 3 = nI (q 5)
    rw [bne 22 (by decide) (by decide) (by decide)]; exact w1.2.2.2.2.2.1
  · show I2 24 3 = nI (q 6)
    rw [bne 24 (by decide) (by decide) (by decide)]; exact w1.2.2.2.2.2.2.1
  · show I2 26 3 = nI (q 7)
    rw [bne 26 (by decide) (by decide) (by decide)]; exact w1.2.2.2.2.2.2.2.1
  · show I2 1 11 = nI (q 8)
    rw [bne 1 (by decide) (by decide) (by decide)]; exact w1.2.2.2.2.2.2.2.2.1
  · show I2 1 12 = nI 1
    rw [bne 1 (by decide) (by decide) (by decide)]; exact i12
  · have hm' : m < q 1 := hm
    rw [bne 7 (by decide) (by decide) (by decide), (gm m (by omega)).2.1]; exact (w2.1 m hm').1
  · have hm' : m < q 1 := hm
    rw [b8 m hm', (gm m (by omega)).2.2.1]
    by_cases c : bd m = true
    · rw [if_pos c, if_pos c]
    · rw [if_neg c, if_neg c]; exact (w2.1 m hm').2
  · obtain ⟨h, -, h1, h2⟩ := gh j hj
    rw [h1, h2]
  · rw [bne 10 (by decide) (by decide) (by decide), gc _ (by omega) (by omega)]; exact (w2.2.1 j hj).2
  · rw [bne 2 (by decide) (by decide) (by decide), gc _ (by omega) (by omega)]; exact w2.2.2 k hk
  · rw [bne 23 (by decide) (by decide) (by decide), gr _ (by omega)]; exact w5.2.1 i hi t ht
  · rw [bne 25 (by decide) (by decide) (by decide), gr _ (by omega)]; exact w5.2.2.1 i hi h3 t ht
  · rw [bne 27 (by decide) (by decide) (by decide), gr _ (by omega)]; exact w5.2.2.2 i hi t ht
  · exact BRr.fr (I := ovh I s) w6 v1.2.2.2.2.2.1 (bne 16 (by decide) (by decide) (by decide)) (bne 17 (by decide) (by decide) (by decide)) (fun j e1 e2 => gr j (by omega))
  · rw [g0 i (by omega)]
    unfold qs
    by_cases e : i = 9
    · rw [if_pos e, if_pos e]; rfl
    · rw [if_neg e, if_neg e]; exact v1.1 i hi
  · have hm' : m < q 1 := hm
    obtain ⟨e1, e2, e3, e4⟩ := gm m (by omega)
    rw [e1, e3]
    by_cases c : bd m = true
    · rw [if_pos c, if_pos c]; exact Or.inr ⟨rfl, q 0, Nat.le_refl _, rfl⟩
    · rw [if_neg c, if_neg c]; exact (v2.1 m hm').1
  · have hm' : m < q 1 := hm
    rw [(gm m (by omega)).2.1]; exact (v2.1 m hm').2.1
  · have hm' : m < q 1 := hm
    rw [(gm m (by omega)).2.2.2]; exact (v2.1 m hm').2.2
  · have h1' : q 1 ≤ m := h1
    rw [(gm m h2).1, if_neg (fun c => by have := hbd m h2 c; omega)]; exact (v2.2.1 m h1' h2).1
  · have h1' : q 1 ≤ m := h1
    rw [(gm m h2).2.2.2]; exact (v2.2.1 m h1' h2).2
  · obtain ⟨h, h0, h1, -⟩ := gh j hj
    exact ⟨h, by omega, h1⟩
  · rw [gc _ (by omega) (by omega)]; exact (v2.2.2.1 j hj).2
  · rw [gc _ (by omega) (by omega)]; exact v2.2.2.2.2 k hk
  · have hc : ∀ t, t < 12 → t ≠ 8 → s2 (192 + 12 * b + t) = s (192 + 12 * b + t) := fun t ht h8 => gb _ (by omega) (by omega) (by omega)
    have hc0 : s2 (192 + 12 * b) = s (192 + 12 * b) := hc 0 (by decide) (by decide)
    rcases v3 b hb with g | ⟨g, sl, by_, st, sh, pr, dy, ac, sta, a1, a2, a3, a4, a5, a6, a7, a8, f1, f2, f3, f4, f5, f6, f7, f8, f9, f10, f11, f12, m1, m2, m3, m4, m5, m6⟩
    · exact Or.inl (by rw [hc0]; exact g)
    · refine Or.inr ⟨by rw [hc0]; exact g, ?_⟩
      unfold IVbg
      rw [hc 1 (by decide) (by decide), hc 2 (by decide) (by decide), hc 3 (by decide) (by decide), hc 4 (by decide) (by decide), hc 5 (by decide) (by decide), hc 6 (by decide) (by decide), hc 7 (by decide) (by decide), hc 9 (by decide) (by decide), hc 10 (by decide) (by decide), hc 11 (by decide) (by decide)]
      rcases gs b hb with k | k | k
      · refine ⟨sl, by_, st, sh, pr, dy, ac, sta, a1, a2, a3, a4, a5, a6, a7, k.trans a8, f1, f2, f3, f4, f5, f6, f7, f8, f9, f10, f11, f12, m1, m2, m3, m4, m5, fun hst => ?_⟩
        have hl : lv s2 b := ⟨by rw [hc0]; exact g, by
          rw [k, a8]
          rcases (show sta = 0 ∨ sta = 1 by omega) with rfl | rfl
          · exact Or.inl rfl
          · exact Or.inr rfl⟩
        constructor
        · by_cases c : s2 (16 + 4 * sl) = 1
          · exact c
          · exact absurd a1 (gu b hb hl sl f1 c).1
        · by_cases c : s2 (16 + 4 * by_) = 1
          · exact c
          · exact absurd a2 (gu b hb hl by_ f2 c).2
      · exact ⟨sl, by_, st, sh, pr, dy, ac, 2, a1, a2, a3, a4, a5, a6, a7, k, f1, f2, f3, f4, f5, f6, f7, f8, f9, f10, f11, by decide, m1, m2, m3, fun z => absurd z (by decide), fun z => absurd z (by decide), fun z => absurd z (by decide)⟩
      · exact ⟨sl, by_, st, sh, pr, dy, ac, 3, a1, a2, a3, a4, a5, a6, a7, k, f1, f2, f3, f4, f5, f6, f7, f8, f9, f10, f11, by decide, m1, m2, m3, fun z => absurd z (by decide), fun z => absurd z (by decide), fun z => absurd z (by decide)⟩
  · have hi' : i < q 3 := hi
    have ht : ∀ t, t < 6 → s2 (912 + 7 * i + t) = s (912 + 7 * i + t) := fun t ht => go _ (by omega) (by omega) (by omega)
    have ht0 : s2 (912 + 7 * i) = s (912 + 7 * i) := ht 0 (by decide)
    obtain ⟨⟨g, t, k, a1, a2, a3, a4, a5, a6, a7, a8⟩, a9, a10, a11, a12⟩ := v4.1 i hi'
    obtain ⟨p1, p2⟩ := gp i hi'
    rw [ht0, ht 1 (by decide), ht 2 (by decide), ht 3 (by decide), ht 4 (by decide), ht 5 (by decide)]
    refine ⟨⟨g, t, k, a1, a2, a3, a4, a5, a6, a7, fun z => ⟨p2 z g a4 (Or.inl a1), p2 z t a5 (Or.inr a2)⟩⟩, a9, a10, a11, ?_⟩
    rcases p1 with p1 | p1
    · rw [p1]; exact a12
    · exact ⟨2, by decide, p1⟩
  · have hi' : i < q 5 := hi
    rw [gr _ (by omega), gr _ (by omega), gr _ (by omega)]; exact v4.2 i hi'
  · exact IVr.fr (q := qs q 9 1) v7 v1.2.2.2.2.2.1 (fun j e1 e2 => gr j (by omega))
  · obtain ⟨h, h0, h1, -⟩ := gh j hj
    exact ⟨h, h0, h1⟩
  · have hi' : i < q 7 := hi
    have hn : ¬ (qs (qs q 9 1) 0 (q 0 + 1) 0 % 14 = 12) := by show ¬ ((q 0 + 1) % 14 = 12); omega
    obtain ⟨k, f, t, sh, a0, a1, a2, a3, a4, a5, a6, a7, a8, a9, aL, aU⟩ := v6.1 i hi'
    rw [gr _ (by omega), gr _ (by omega), gr _ (by omega), gr _ (by omega), gr _ (by omega)]
    refine ⟨k, f, t, sh, a0, a1, a2, a3, a4, a5, a6, a7, a8, a9, ?_, fun z => absurd z hn⟩
    rcases aL with aL | ⟨m, z1, z2, -⟩
    · exact Or.inl aL
    · exact Or.inr ⟨m, z1, z2, fun z => absurd z hn⟩
  · show dvS s2 (q 7) ≤ 5940
    rw [dvS_congr (s := s) (q 7) (fun i _ => gr _ (by omega))]; exact v6.2.1
  · have hi' : i < q 7 := hi
    have hj' : j < q 7 := hj
    rw [gr _ (by omega), gr _ (by omega), gr _ (by omega), gr _ (by omega)]; exact v6.2.2 i j hi' hj'
end
