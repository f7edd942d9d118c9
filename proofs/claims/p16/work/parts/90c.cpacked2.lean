set_option maxHeartbeats 1000000 in
set_option maxRecDepth 100000 in
theorem x2_sites (l : Launch) (G : Gy) (H0 : Heap) (h0 : Nat) (k : Nat) (pm : Nat) (la : Nat) (told : Int32) (sp : Int32) (fc : Nat → Int32) (fk : Nat → Int32) (fsg : Nat → Int32) (wa : Option PQ) (wb : Option PQ) (c0 : Nat) (b0 : Nat) (ma : Nat → Nat) (w : va_W) (hM : CWd G h0 (nI k, told, sp, nI (sc k la), fc, fk, nI pm, fsg, wa, wb, c0, b0) w) (hk2 : 2 ≤ k) (hk6 : k ≤ 6) (hpm : pm ≤ 40) (hla : la < 5 ^ k) (hcr : CR k told fc ma) (hsp : inR sp 1 6) (p0 : Int32) : LK l G yX9_sites wsX9_sites ({ frames := 0, cells := 0, slots := 0, locals := 0 }) [.ref h0, .int p0] w H0 (fun r w2 g nn => ∃ (n1 : Int32) (told1 : Int32) (gr1 : Int32), CWd G h0 (n1, told1, sp, gr1, fc, fk, nI pm, fsg, wa, wb, c0, b0) w2 ∧ g + cqN wa wb c0 b0 = cqN wa wb c0 b0 ∧ nn + sqN wa wb c0 b0 = sqN wa wb c0 b0 ∧ ((inR p0 2 6 ∧ r = nI k ∧ n1 = p0 ∧ told1 = 0 ∧ gr1 = 0) ∨ (¬ inR p0 2 6 ∧ r = (-2) ∧ n1 = nI k ∧ told1 = told ∧ gr1 = nI (sc k la)))) 0 0 := by
  refine CWd_el hM ?_
  intro pad pp im ac ak sg sl vse vtr fsl fim T Tt Ta Tb hw_q hSK hTK hIa hIb
  subst hw_q
  refine K_0 (wr := [(im, .inl (gP G, 2, .inr (.inr (.inr (.inr fim)))))] ++ (T ++ (Tt ++ (Ta ++ Tb)))) (g_sites l G H0.size h0 pad pp im vse vtr ac ak sg sl k pm la told sp fc fk fsg fsl ma p0 hk2 hk6 hpm hla hcr hsp) (List.Perm.refl _) (fun r u hu => ?_)
  obtain ⟨n1, told1, gr1⟩ := u
  dsimp only at hu
  exact ⟨[(h0, .inr (5, [.ref pad, .ref pp, .ref im, vse, vtr])), (pad, .inr (0, [.ref sg, .ref sl, .int (nI pm)])), (sg, .inl (gI G, 40, .inl fsg)), (sl, .inl (gI G, 10, .inl fsl)), (pp, .inr (1, [.int n1, .int told1, .int sp, .int gr1, .ref ac, .ref ak])), (ac, .inl (gI G, 6, .inl fc)), (ak, .inl (gI G, 4, .inl fk))] ++ ([(im, .inl (gP G, 2, .inr (.inr (.inr (.inr fim)))))] ++ (T ++ (Tt ++ (Ta ++ Tb)))), List.Perm.refl _, n1, told1, gr1, ⟨pad, pp, im, ac, ak, sg, sl, vse, vtr, fsl, fim, T, Tt, Ta, Tb, rfl, hSK, hTK, hIa, hIb⟩, by (try dsimp only); unfold cqN; omega, by (try dsimp only); unfold sqN; omega, hu⟩

set_option maxHeartbeats 1000000 in
set_option maxRecDepth 100000 in
theorem x2_say (l : Launch) (G : Gy) (H0 : Heap) (h0 : Nat) (k : Nat) (pm : Nat) (la : Nat) (told : Int32) (sp : Int32) (fc : Nat → Int32) (fk : Nat → Int32) (fsg : Nat → Int32) (wa : Option PQ) (wb : Option PQ) (c0 : Nat) (b0 : Nat) (ma : Nat → Nat) (w : va_W) (hM : CWd G h0 (nI k, told, sp, nI (sc k la), fc, fk, nI pm, fsg, wa, wb, c0, b0) w) (hk2 : 2 ≤ k) (hk6 : k ≤ 6) (hpm : pm ≤ 40) (hla : la < 5 ^ k) (hcr : CR k told fc ma) (hsp : inR sp 1 6) (p0 : Int32) : LK l G yX9_say wsX9_say ({ frames := 1, cells := 0, slots := 0, locals := 21 }) [.ref h0, .int p0] w H0 (fun r w2 g nn => ∃ (len1 : Int32) (fsg1 : Nat → Int32), CWd G h0 (nI k, told, sp, nI (sc k la), fc, fk, len1, fsg1, wa, wb, c0, b0) w2 ∧ g + cqN wa wb c0 b0 = cqN wa wb c0 b0 ∧ nn + sqN wa wb c0 b0 = sqN wa wb c0 b0 ∧ ((¬ inR p0 33 126 ∧ r = (-2) ∧ len1 = nI pm ∧ fsg1 = fsg) ∨ (inR p0 33 126 ∧ pm = 40 ∧ r = (-4) ∧ len1 = nI pm ∧ fsg1 = fsg) ∨ (inR p0 33 126 ∧ pm < 40 ∧ r = nI (pm + 1) ∧ len1 = nI (pm + 1) ∧ fsg1 = upd fsg pm p0))) 0 0 := by
  refine CWd_el hM ?_
  intro pad pp im ac ak sg sl vse vtr fsl fim T Tt Ta Tb hw_q hSK hTK hIa hIb
  subst hw_q
  refine K_0 (wr := [(im, .inl (gP G, 2, .inr (.inr (.inr (.inr fim)))))] ++ (T ++ (Tt ++ (Ta ++ Tb)))) (g_say l G H0.size h0 pad pp im vse vtr ac ak sg sl k pm la told sp fc fk fsg fsl ma p0 hk2 hk6 hpm hla hcr hsp) (List.Perm.refl _) (fun r u hu => ?_)
  obtain ⟨len1, fsg1⟩ := u
  dsimp only at hu
  exact ⟨[(h0, .inr (5, [.ref pad, .ref pp, .ref im, vse, vtr])), (pad, .inr (0, [.ref sg, .ref sl, .int len1])), (sg, .inl (gI G, 40, .inl fsg1)), (sl, .inl (gI G, 10, .inl fsl)), (pp, .inr (1, [.int (nI k), .int told, .int sp, .int (nI (sc k la)), .ref ac, .ref ak])), (ac, .inl (gI G, 6, .inl fc)), (ak, .inl (gI G, 4, .inl fk))] ++ ([(im, .inl (gP G, 2, .inr (.inr (.inr (.inr fim)))))] ++ (T ++ (Tt ++ (Ta ++ Tb)))), List.Perm.refl _, len1, fsg1, ⟨pad, pp, im, ac, ak, sg, sl, vse, vtr, fsl, fim, T, Tt, Ta, Tb, rfl, hSK, hTK, hIa, hIb⟩, by (try dsimp only); unfold cqN; omega, by (try dsimp only); unfold sqN; omega, hu⟩

set_option maxHeartbeats 1000000 in
set_option maxRecDepth 100000 in
theorem x2_wipe (l : Launch) (G : Gy) (H0 : Heap) (h0 : Nat) (k : Nat) (pm : Nat) (la : Nat) (told : Int32) (sp : Int32) (fc : Nat → Int32) (fk : Nat → Int32) (fsg : Nat → Int32) (wa : Option PQ) (wb : Option PQ) (c0 : Nat) (b0 : Nat) (ma : Nat → Nat) (w : va_W) (hM : CWd G h0 (nI k, told, sp, nI (sc k la), fc, fk, nI pm, fsg, wa, wb, c0, b0) w) (hk2 : 2 ≤ k) (hk6 : k ≤ 6) (hpm : pm ≤ 40) (hla : la < 5 ^ k) (hcr : CR k told fc ma) (hsp : inR sp 1 6)  : LK l G yX9_wipe wsX9_wipe ({ frames := 0, cells := 0, slots := 0, locals := 0 }) [.ref h0] w H0 (fun r w2 g nn => ∃ (len1 : Int32), CWd G h0 (nI k, told, sp, nI (sc k la), fc, fk, len1, fsg, wa, wb, c0, b0) w2 ∧ g + cqN wa wb c0 b0 = cqN wa wb c0 b0 ∧ nn + sqN wa wb c0 b0 = sqN wa wb c0 b0 ∧ (r = nI pm ∧ len1 = 0)) 0 0 := by
  refine CWd_el hM ?_
  intro pad pp im ac ak sg sl vse vtr fsl fim T Tt Ta Tb hw_q hSK hTK hIa hIb
  subst hw_q
  refine K_0 (wr := [(im, .inl (gP G, 2, .inr (.inr (.inr (.inr fim)))))] ++ (T ++ (Tt ++ (Ta ++ Tb)))) (g_wipe l G H0.size h0 pad pp im vse vtr ac ak sg sl k pm la told sp fc fk fsg fsl ma hk2 hk6 hpm hla hcr hsp) (List.Perm.refl _) (fun r u hu => ?_)
  obtain ⟨len1, rfl⟩ : ∃ z, z = u := ⟨_, rfl⟩
  exact ⟨[(h0, .inr (5, [.ref pad, .ref pp, .ref im, vse, vtr])), (pad, .inr (0, [.ref sg, .ref sl, .int len1])), (sg, .inl (gI G, 40, .inl fsg)), (sl, .inl (gI G, 10, .inl fsl)), (pp, .inr (1, [.int (nI k), .int told, .int sp, .int (nI (sc k la)), .ref ac, .ref ak])), (ac, .inl (gI G, 6, .inl fc)), (ak, .inl (gI G, 4, .inl fk))] ++ ([(im, .inl (gP G, 2, .inr (.inr (.inr (.inr fim)))))] ++ (T ++ (Tt ++ (Ta ++ Tb)))), List.Perm.refl _, len1, ⟨pad, pp, im, ac, ak, sg, sl, vse, vtr, fsl, fim, T, Tt, Ta, Tb, rfl, hSK, hTK, hIa, hIb⟩, by (try dsimp only); unfold cqN; omega, by (try dsimp only); unfold sqN; omega, hu⟩

set_option maxHeartbeats 1000000 in
set_option maxRecDepth 100000 in
theorem x2_fault (l : Launch) (G : Gy) (H0 : Heap) (h0 : Nat) (k : Nat) (pm : Nat) (la : Nat) (told : Int32) (sp : Int32) (fc : Nat → Int32) (fk : Nat → Int32) (fsg : Nat → Int32) (wa : Option PQ) (wb : Option PQ) (c0 : Nat) (b0 : Nat) (ma : Nat → Nat) (w : va_W) (hM : CWd G h0 (nI k, told, sp, nI (sc k la), fc, fk, nI pm, fsg, wa, wb, c0, b0) w) (hk2 : 2 ≤ k) (hk6 : k ≤ 6) (hpm : pm ≤ 40) (hla : la < 5 ^ k) (hcr : CR k told fc ma) (hsp : inR sp 1 6) (p0 : Int32) : LK l G yX9_fault wsX9_fault ({ frames := 5, cells := 0, slots := 0, locals := 116 }) [.ref h0, .int p0] w H0 (fun r w2 g nn => CWd G h0 (nI k, told, sp, nI (sc k la), fc, fk, nI pm, fsg, wa, wb, c0, b0) w2 ∧ g + cqN wa wb c0 b0 = cqN wa wb c0 b0 ∧ nn + sqN wa wb c0 b0 = sqN wa wb c0 b0 ∧ (r = fltA k pm fsg p0)) 0 0 := by
  refine CWd_el hM ?_
  intro pad pp im ac ak sg sl vse vtr fsl fim T Tt Ta Tb hw_q hSK hTK hIa hIb
  subst hw_q
  refine K_0 (wr := [(im, .inl (gP G, 2, .inr (.inr (.inr (.inr fim)))))] ++ (T ++ (Tt ++ (Ta ++ Tb)))) (g_fault l G H0.size h0 pad pp im vse vtr ac ak sg sl k pm la told sp fc fk fsg fsl ma p0 hk2 hk6 hpm hla hcr hsp) (List.Perm.refl _) (fun r u hu => ?_)
  exact ⟨[(h0, .inr (5, [.ref pad, .ref pp, .ref im, vse, vtr])), (pad, .inr (0, [.ref sg, .ref sl, .int (nI pm)])), (sg, .inl (gI G, 40, .inl fsg)), (sl, .inl (gI G, 10, .inl fsl)), (pp, .inr (1, [.int (nI k), .int told, .int sp, .int (nI (sc k la)), .ref ac, .ref ak])), (ac, .inl (gI G, 6, .inl fc)), (ak, .inl (gI G, 4, .inl fk))] ++ ([(im, .inl (gP G, 2, .inr (.inr (.inr (.inr fim)))))] ++ (T ++ (Tt ++ (Ta ++ Tb)))), List.Perm.refl _, ⟨pad, pp, im, ac, ak, sg, sl, vse, vtr, fsl, fim, T, Tt, Ta, Tb, rfl, hSK, hTK, hIa, hIb⟩, by (try dsimp only); unfold cqN; omega, by (try dsimp only); unfold sqN; omega, hu⟩

set_option maxHeartbeats 1000000 in
set_option maxRecDepth 100000 in
theorem x2_map (l : Launch) (G : Gy) (H0 : Heap) (h0 : Nat) (k : Nat) (pm : Nat) (la : Nat) (told : Int32) (sp : Int32) (fc : Nat → Int32) (fk : Nat → Int32) (fsg : Nat → Int32) (wa : Option PQ) (wb : Option PQ) (c0 : Nat) (b0 : Nat) (ma : Nat → Nat) (w : va_W) (hM : CWd G h0 (nI k, told, sp, nI (sc k la), fc, fk, nI pm, fsg, wa, wb, c0, b0) w) (hk2 : 2 ≤ k) (hk6 : k ≤ 6) (hpm : pm ≤ 40) (hla : la < 5 ^ k) (hcr : CR k told fc ma) (hsp : inR sp 1 6) (p0 : Int32) : LK l G yX9_map wsX9_map ({ frames := 5, cells := 0, slots := 0, locals := 116 }) [.ref h0, .int p0] w H0 (fun r w2 g nn => ∃ (len1 : Int32) (told1 : Int32) (fc1 : Nat → Int32), CWd G h0 (nI k, told1, sp, nI (sc k la), fc1, fk, len1, fsg, wa, wb, c0, b0) w2 ∧ g + cqN wa wb c0 b0 = cqN wa wb c0 b0 ∧ nn + sqN wa wb c0 b0 = sqN wa wb c0 b0 ∧ (r = (mpA k pm fsg p0).1 ∧ COut k (mpA k pm fsg p0).2 p0 told told1 (nI pm) len1 fc fc1)) 0 0 := by
  refine CWd_el hM ?_
  intro pad pp im ac ak sg sl vse vtr fsl fim T Tt Ta Tb hw_q hSK hTK hIa hIb
  subst hw_q
  refine K_0 (wr := [(im, .inl (gP G, 2, .inr (.inr (.inr (.inr fim)))))] ++ (T ++ (Tt ++ (Ta ++ Tb)))) (g_map l G H0.size h0 pad pp im vse vtr ac ak sg sl k pm la told sp fc fk fsg fsl ma p0 hk2 hk6 hpm hla hcr hsp) (List.Perm.refl _) (fun r u hu => ?_)
  obtain ⟨len1, told1, fc1⟩ := u
  dsimp only at hu
  exact ⟨[(h0, .inr (5, [.ref pad, .ref pp, .ref im, vse, vtr])), (pad, .inr (0, [.ref sg, .ref sl, .int len1])), (sg, .inl (gI G, 40, .inl fsg)), (sl, .inl (gI G, 10, .inl fsl)), (pp, .inr (1, [.int (nI k), .int told1, .int sp, .int (nI (sc k la)), .ref ac, .ref ak])), (ac, .inl (gI G, 6, .inl fc1)), (ak, .inl (gI G, 4, .inl fk))] ++ ([(im, .inl (gP G, 2, .inr (.inr (.inr (.inr fim)))))] ++ (T ++ (Tt ++ (Ta ++ Tb)))), List.Perm.refl _, len1, told1, fc1, ⟨pad, pp, im, ac, ak, sg, sl, vse, vtr, fsl, fim, T, Tt, Ta, Tb, rfl, hSK, hTK, hIa, hIb⟩, by (try dsimp only); unfold cqN; omega, by (try dsimp only); unfold sqN; omega, hu⟩

set_option maxHeartbeats 1000000 in
set_option maxRecDepth 100000 in
theorem x2_at (l : Launch) (G : Gy) (H0 : Heap) (h0 : Nat) (k : Nat) (pm : Nat) (la : Nat) (told : Int32) (sp : Int32) (fc : Nat → Int32) (fk : Nat → Int32) (fsg : Nat → Int32) (wa : Option PQ) (wb : Option PQ) (c0 : Nat) (b0 : Nat) (ma : Nat → Nat) (w : va_W) (hM : CWd G h0 (nI k, told, sp, nI (sc k la), fc, fk, nI pm, fsg, wa, wb, c0, b0) w) (hk2 : 2 ≤ k) (hk6 : k ≤ 6) (hpm : pm ≤ 40) (hla : la < 5 ^ k) (hcr : CR k told fc ma) (hsp : inR sp 1 6) (p0 : Int32) (p1 : Int32) : LK l G yX9_at wsX9_at ({ frames := 3, cells := 0, slots := 0, locals := 62 }) [.ref h0, .int p0, .int p1] w H0 (fun r w2 g nn => CWd G h0 (nI k, told, sp, nI (sc k la), fc, fk, nI pm, fsg, wa, wb, c0, b0) w2 ∧ g + cqN wa wb c0 b0 = cqN wa wb c0 b0 ∧ nn + sqN wa wb c0 b0 = sqN wa wb c0 b0 ∧ (r = atA k told ma p0 p1)) 0 0 := by
  refine CWd_el hM ?_
  intro pad pp im ac ak sg sl vse vtr fsl fim T Tt Ta Tb hw_q hSK hTK hIa hIb
  subst hw_q
  refine K_0 (wr := [(im, .inl (gP G, 2, .inr (.inr (.inr (.inr fim)))))] ++ (T ++ (Tt ++ (Ta ++ Tb)))) (g_at l G H0.size h0 pad pp im vse vtr ac ak sg sl k pm la told sp fc fk fsg fsl ma p0 p1 hk2 hk6 hpm hla hcr hsp) (List.Perm.refl _) (fun r u hu => ?_)
  exact ⟨[(h0, .inr (5, [.ref pad, .ref pp, .ref im, vse, vtr])), (pad, .inr (0, [.ref sg, .ref sl, .int (nI pm)])), (sg, .inl (gI G, 40, .inl fsg)), (sl, .inl (gI G, 10, .inl fsl)), (pp, .inr (1, [.int (nI k), .int told, .int sp, .int (nI (sc k la)), .ref ac, .ref ak])), (ac, .inl (gI G, 6, .inl fc)), (ak, .inl (gI G, 4, .inl fk))] ++ ([(im, .inl (gP G, 2, .inr (.inr (.inr (.inr fim)))))] ++ (T ++ (Tt ++ (Ta ++ Tb)))), List.Perm.refl _, ⟨pad, pp, im, ac, ak, sg, sl, vse, vtr, fsl, fim, T, Tt, Ta, Tb, rfl, hSK, hTK, hIa, hIb⟩, by (try dsimp only); unfold cqN; omega, by (try dsimp only); unfold sqN; omega, hu⟩

set_option maxHeartbeats 1000000 in
set_option maxRecDepth 100000 in
theorem x2_judge (l : Launch) (G : Gy) (H0 : Heap) (h0 : Nat) (k : Nat) (pm : Nat) (la : Nat) (told : Int32) (sp : Int32) (fc : Nat → Int32) (fk : Nat → Int32) (fsg : Nat → Int32) (wa : Option PQ) (wb : Option PQ) (c0 : Nat) (b0 : Nat) (ma : Nat → Nat) (w : va_W) (hM : CWd G h0 (nI k, told, sp, nI (sc k la), fc, fk, nI pm, fsg, wa, wb, c0, b0) w) (hk2 : 2 ≤ k) (hk6 : k ≤ 6) (hpm : pm ≤ 40) (hla : la < 5 ^ k) (hcr : CR k told fc ma) (hsp : inR sp 1 6) (p0 : Int32) : LK l G yX9_judge wsX9_judge ({ frames := 5, cells := 0, slots := 0, locals := 116 }) [.ref h0, .int p0] w H0 (fun r w2 g nn => CWd G h0 (nI k, told, sp, nI (sc k la), fc, fk, nI pm, fsg, wa, wb, c0, b0) w2 ∧ g + cqN wa wb c0 b0 = cqN wa wb c0 b0 ∧ nn + sqN wa wb c0 b0 = sqN wa wb c0 b0 ∧ (r = jdA k pm told fsg ma p0)) 0 0 := by
  refine CWd_el hM ?_
  intro pad pp im ac ak sg sl vse vtr fsl fim T Tt Ta Tb hw_q hSK hTK hIa hIb
  subst hw_q
  refine K_0 (wr := [(im, .inl (gP G, 2, .inr (.inr (.inr (.inr fim)))))] ++ (T ++ (Tt ++ (Ta ++ Tb)))) (g_judge l G H0.size h0 pad pp im vse vtr ac ak sg sl k pm la told sp fc fk fsg fsl ma p0 hk2 hk6 hpm hla hcr hsp) (List.Perm.refl _) (fun r u hu => ?_)
  obtain ⟨fsl1, rfl⟩ : ∃ z, z = u := ⟨_, rfl⟩
  exact ⟨[(h0, .inr (5, [.ref pad, .ref pp, .ref im, vse, vtr])), (pad, .inr (0, [.ref sg, .ref sl, .int (nI pm)])), (sg, .inl (gI G, 40, .inl fsg)), (sl, .inl (gI G, 10, .inl fsl1)), (pp, .inr (1, [.int (nI k), .int told, .int sp, .int (nI (sc k la)), .ref ac, .ref ak])), (ac, .inl (gI G, 6, .inl fc)), (ak, .inl (gI G, 4, .inl fk))] ++ ([(im, .inl (gP G, 2, .inr (.inr (.inr (.inr fim)))))] ++ (T ++ (Tt ++ (Ta ++ Tb)))), List.Perm.refl _, ⟨pad, pp, im, ac, ak, sg, sl, vse, vtr, fsl1, fim, T, Tt, Ta, Tb, rfl, hSK, hTK, hIa, hIb⟩, by (try dsimp only); unfold cqN; omega, by (try dsimp only); unfold sqN; omega, hu⟩

set_option maxHeartbeats 1000000 in
set_option maxRecDepth 100000 in
theorem x2_copy (l : Launch) (G : Gy) (H0 : Heap) (h0 : Nat) (k : Nat) (pm : Nat) (la : Nat) (told : Int32) (sp : Int32) (fc : Nat → Int32) (fk : Nat → Int32) (fsg : Nat → Int32) (wa : Option PQ) (wb : Option PQ) (c0 : Nat) (b0 : Nat) (ma : Nat → Nat) (w : va_W) (hM : CWd G h0 (nI k, told, sp, nI (sc k la), fc, fk, nI pm, fsg, wa, wb, c0, b0) w) (hk2 : 2 ≤ k) (hk6 : k ≤ 6) (hpm : pm ≤ 40) (hla : la < 5 ^ k) (hcr : CR k told fc ma) (hsp : inR sp 1 6) (p0 : Int32) (p1 : Int32) : LK l G yX9_copy wsX9_copy ({ frames := 5, cells := 0, slots := 0, locals := 116 }) [.ref h0, .int p0, .int p1] w H0 (fun r w2 g nn => ∃ (len1 : Int32) (told1 : Int32) (fc1 : Nat → Int32), CWd G h0 (nI k, told1, sp, nI (sc k la), fc1, fk, len1, fsg, wa, wb, c0, b0) w2 ∧ g + cqN wa wb c0 b0 = cqN wa wb c0 b0 ∧ nn + sqN wa wb c0 b0 = sqN wa wb c0 b0 ∧ (r = (cpA k pm told fsg ma p0 p1).1 ∧ COut k (cpA k pm told fsg ma p0 p1).2 p0 told told1 (nI pm) len1 fc fc1)) 0 0 := by
  refine CWd_el hM ?_
  intro pad pp im ac ak sg sl vse vtr fsl fim T Tt Ta Tb hw_q hSK hTK hIa hIb
  subst hw_q
  refine K_0 (wr := [(im, .inl (gP G, 2, .inr (.inr (.inr (.inr fim)))))] ++ (T ++ (Tt ++ (Ta ++ Tb)))) (g_copy l G H0.size h0 pad pp im vse vtr ac ak sg sl k pm la told sp fc fk fsg fsl ma p0 p1 hk2 hk6 hpm hla hcr hsp) (List.Perm.refl _) (fun r u hu => ?_)
  obtain ⟨len1, fsl1, told1, fc1⟩ := u
  dsimp only at hu
  exact ⟨[(h0, .inr (5, [.ref pad, .ref pp, .ref im, vse, vtr])), (pad, .inr (0, [.ref sg, .ref sl, .int len1])), (sg, .inl (gI G, 40, .inl fsg)), (sl, .inl (gI G, 10, .inl fsl1)), (pp, .inr (1, [.int (nI k), .int told1, .int sp, .int (nI (sc k la)), .ref ac, .ref ak])), (ac, .inl (gI G, 6, .inl fc1)), (ak, .inl (gI G, 4, .inl fk))] ++ ([(im, .inl (gP G, 2, .inr (.inr (.inr (.inr fim)))))] ++ (T ++ (Tt ++ (Ta ++ Tb)))), List.Perm.refl _, len1, told1, fc1, ⟨pad, pp, im, ac, ak, sg, sl, vse, vtr, fsl1, fim, T, Tt, Ta, Tb, rfl, hSK, hTK, hIa, hIb⟩, by (try dsimp only); unfold cqN; omega, by (try dsimp only); unfold sqN; omega, hu⟩

set_option maxHeartbeats 1000000 in
set_option maxRecDepth 100000 in
theorem x2_told (l : Launch) (G : Gy) (H0 : Heap) (h0 : Nat) (k : Nat) (pm : Nat) (la : Nat) (told : Int32) (sp : Int32) (fc : Nat → Int32) (fk : Nat → Int32) (fsg : Nat → Int32) (wa : Option PQ) (wb : Option PQ) (c0 : Nat) (b0 : Nat) (ma : Nat → Nat) (w : va_W) (hM : CWd G h0 (nI k, told, sp, nI (sc k la), fc, fk, nI pm, fsg, wa, wb, c0, b0) w) (hk2 : 2 ≤ k) (hk6 : k ≤ 6) (hpm : pm ≤ 40) (hla : la < 5 ^ k) (hcr : CR k told fc ma) (hsp : inR sp 1 6) (p0 : Int32) : LK l G yX9_told wsX9_told ({ frames := 1, cells := 0, slots := 0, locals := 21 }) [.ref h0, .int p0] w H0 (fun r w2 g nn => CWd G h0 (nI k, told, sp, nI (sc k la), fc, fk, nI pm, fsg, wa, wb, c0, b0) w2 ∧ g + cqN wa wb c0 b0 = cqN wa wb c0 b0 ∧ nn + sqN wa wb c0 b0 = sqN wa wb c0 b0 ∧ (r = tdA p0 fk pm k told sp)) 0 0 := by
  refine CWd_el hM ?_
  intro pad pp im ac ak sg sl vse vtr fsl fim T Tt Ta Tb hw_q hSK hTK hIa hIb
  subst hw_q
  refine K_0 (wr := [(im, .inl (gP G, 2, .inr (.inr (.inr (.inr fim)))))] ++ (T ++ (Tt ++ (Ta ++ Tb)))) (g_told l G H0.size h0 pad pp im vse vtr ac ak sg sl k pm la told sp fc fk fsg fsl ma p0 hk2 hk6 hpm hla hcr hsp) (List.Perm.refl _) (fun r u hu => ?_)
  exact ⟨[(h0, .inr (5, [.ref pad, .ref pp, .ref im, vse, vtr])), (pad, .inr (0, [.ref sg, .ref sl, .int (nI pm)])), (sg, .inl (gI G, 40, .inl fsg)), (sl, .inl (gI G, 10, .inl fsl)), (pp, .inr (1, [.int (nI k), .int told, .int sp, .int (nI (sc k la)), .ref ac, .ref ak])), (ac, .inl (gI G, 6, .inl fc)), (ak, .inl (gI G, 4, .inl fk))] ++ ([(im, .inl (gP G, 2, .inr (.inr (.inr (.inr fim)))))] ++ (T ++ (Tt ++ (Ta ++ Tb)))), List.Perm.refl _, ⟨pad, pp, im, ac, ak, sg, sl, vse, vtr, fsl, fim, T, Tt, Ta, Tb, rfl, hSK, hTK, hIa, hIb⟩, by (try dsimp only); unfold cqN; omega, by (try dsimp only); unfold sqN; omega, hu⟩

set_option maxHeartbeats 1000000 in
set_option maxRecDepth 100000 in
theorem x2_land (l : Launch) (G : Gy) (H0 : Heap) (h0 : Nat) (k : Nat) (pm : Nat) (la : Nat) (told : Int32) (sp : Int32) (fc : Nat → Int32) (fk : Nat → Int32) (fsg : Nat → Int32) (wa : Option PQ) (wb : Option PQ) (c0 : Nat) (b0 : Nat) (ma : Nat → Nat) (w : va_W) (hM : CWd G h0 (nI k, told, sp, nI (sc k la), fc, fk, nI pm, fsg, wa, wb, c0, b0) w) (hk2 : 2 ≤ k) (hk6 : k ≤ 6) (hpm : pm ≤ 40) (hla : la < 5 ^ k) (hcr : CR k told fc ma) (hsp : inR sp 1 6) (p0 : Int32) : LK l G yX9_land wsX9_land ({ frames := 2, cells := 0, slots := 0, locals := 42 }) [.ref h0, .int p0] w H0 (fun r w2 g nn => CWd G h0 (nI k, told, sp, nI (sc k la), fc, fk, nI pm, fsg, wa, wb, c0, b0) w2 ∧ g + cqN wa wb c0 b0 = cqN wa wb c0 b0 ∧ nn + sqN wa wb c0 b0 = sqN wa wb c0 b0 ∧ (r = ldA k la p0)) 0 0 := by
  refine CWd_el hM ?_
  intro pad pp im ac ak sg sl vse vtr fsl fim T Tt Ta Tb hw_q hSK hTK hIa hIb
  subst hw_q
  refine K_0 (wr := [(im, .inl (gP G, 2, .inr (.inr (.inr (.inr fim)))))] ++ (T ++ (Tt ++ (Ta ++ Tb)))) (g_land l G H0.size h0 pad pp im vse vtr ac ak sg sl k pm la told sp fc fk fsg fsl ma p0 hk2 hk6 hpm hla hcr hsp) (List.Perm.refl _) (fun r u hu => ?_)
  exact ⟨[(h0, .inr (5, [.ref pad, .ref pp, .ref im, vse, vtr])), (pad, .inr (0, [.ref sg, .ref sl, .int (nI pm)])), (sg, .inl (gI G, 40, .inl fsg)), (sl, .inl (gI G, 10, .inl fsl)), (pp, .inr (1, [.int (nI k), .int told, .int sp, .int (nI (sc k la)), .ref ac, .ref ak])), (ac, .inl (gI G, 6, .inl fc)), (ak, .inl (gI G, 4, .inl fk))] ++ ([(im, .inl (gP G, 2, .inr (.inr (.inr (.inr fim)))))] ++ (T ++ (Tt ++ (Ta ++ Tb)))), List.Perm.refl _, ⟨pad, pp, im, ac, ak, sg, sl, vse, vtr, fsl, fim, T, Tt, Ta, Tb, rfl, hSK, hTK, hIa, hIb⟩, by (try dsimp only); unfold cqN; omega, by (try dsimp only); unfold sqN; omega, hu⟩

set_option maxHeartbeats 1000000 in
set_option maxRecDepth 100000 in
theorem x2_years (l : Launch) (G : Gy) (H0 : Heap) (h0 : Nat) (k : Nat) (pm : Nat) (la : Nat) (told : Int32) (sp : Int32) (fc : Nat → Int32) (fk : Nat → Int32) (fsg : Nat → Int32) (wa : Option PQ) (wb : Option PQ) (c0 : Nat) (b0 : Nat) (ma : Nat → Nat) (w : va_W) (hM : CWd G h0 (nI k, told, sp, nI (sc k la), fc, fk, nI pm, fsg, wa, wb, c0, b0) w) (hk2 : 2 ≤ k) (hk6 : k ≤ 6) (hpm : pm ≤ 40) (hla : la < 5 ^ k) (hcr : CR k told fc ma) (hsp : inR sp 1 6) (p0 : Int32) : LK l G yX9_years wsX9_years ({ frames := 3, cells := 0, slots := 0, locals := 65 }) [.ref h0, .int p0] w H0 (fun r w2 g nn => CWd G h0 (nI k, told, sp, nI (sc k la), fc, fk, nI pm, fsg, wa, wb, c0, b0) w2 ∧ g + cqN wa wb c0 b0 = cqN wa wb c0 b0 ∧ nn + sqN wa wb c0 b0 = sqN wa wb c0 b0 ∧ (r = yrA k la told sp ma p0)) 0 0 := by
  refine CWd_el hM ?_
  intro pad pp im ac ak sg sl vse vtr fsl fim T Tt Ta Tb hw_q hSK hTK hIa hIb
  subst hw_q
  refine K_0 (wr := [(im, .inl (gP G, 2, .inr (.inr (.inr (.inr fim)))))] ++ (T ++ (Tt ++ (Ta ++ Tb)))) (g_years l G H0.size h0 pad pp im vse vtr ac ak sg sl k pm la told sp fc fk fsg fsl ma p0 hk2 hk6 hpm hla hcr hsp) (List.Perm.refl _) (fun r u hu => ?_)
  exact ⟨[(h0, .inr (5, [.ref pad, .ref pp, .ref im, vse, vtr])), (pad, .inr (0, [.ref sg, .ref sl, .int (nI pm)])), (sg, .inl (gI G, 40, .inl fsg)), (sl, .inl (gI G, 10, .inl fsl)), (pp, .inr (1, [.int (nI k), .int told, .int sp, .int (nI (sc k la)), .ref ac, .ref ak])), (ac, .inl (gI G, 6, .inl fc)), (ak, .inl (gI G, 4, .inl fk))] ++ ([(im, .inl (gP G, 2, .inr (.inr (.inr (.inr fim)))))] ++ (T ++ (Tt ++ (Ta ++ Tb)))), List.Perm.refl _, ⟨pad, pp, im, ac, ak, sg, sl, vse, vtr, fsl, fim, T, Tt, Ta, Tb, rfl, hSK, hTK, hIa, hIb⟩, by (try dsimp only); unfold cqN; omega, by (try dsimp only); unfold sqN; omega, hu⟩

set_option maxHeartbeats 1000000 in
set_option maxRecDepth 100000 in
theorem x2_follow (l : Launch) (G : Gy) (H0 : Heap) (h0 : Nat) (k : Nat) (pm : Nat) (la : Nat) (told : Int32) (sp : Int32) (fc : Nat → Int32) (fk : Nat → Int32) (fsg : Nat → Int32) (wa : Option PQ) (wb : Option PQ) (c0 : Nat) (b0 : Nat) (ma : Nat → Nat) (w : va_W) (hM : CWd G h0 (nI k, told, sp, nI (sc k la), fc, fk, nI pm, fsg, wa, wb, c0, b0) w) (hk2 : 2 ≤ k) (hk6 : k ≤ 6) (hpm : pm ≤ 40) (hla : la < 5 ^ k) (hcr : CR k told fc ma) (hsp : inR sp 1 6) (p0 : Int32) (p1 : Int32) : LK l G yX9_follow wsX9_follow ({ frames := 3, cells := 0, slots := 0, locals := 65 }) [.ref h0, .int p0, .int p1] w H0 (fun r w2 g nn => ∃ (gr1 : Int32), CWd G h0 (nI k, told, sp, gr1, fc, fk, nI pm, fsg, wa, wb, c0, b0) w2 ∧ g + cqN wa wb c0 b0 = cqN wa wb c0 b0 ∧ nn + sqN wa wb c0 b0 = sqN wa wb c0 b0 ∧ (r = (flA k la told sp ma p0 p1).1 ∧ gr1 = nI (sc k (flA k la told sp ma p0 p1).2))) 0 0 := by
  refine CWd_el hM ?_
  intro pad pp im ac ak sg sl vse vtr fsl fim T Tt Ta Tb hw_q hSK hTK hIa hIb
  subst hw_q
  refine K_0 (wr := [(im, .inl (gP G, 2, .inr (.inr (.inr (.inr fim)))))] ++ (T ++ (Tt ++ (Ta ++ Tb)))) (g_follow l G H0.size h0 pad pp im vse vtr ac ak sg sl k pm la told sp fc fk fsg fsl ma p0 p1 hk2 hk6 hpm hla hcr hsp) (List.Perm.refl _) (fun r u hu => ?_)
  obtain ⟨gr1, rfl⟩ : ∃ z, z = u := ⟨_, rfl⟩
  exact ⟨[(h0, .inr (5, [.ref pad, .ref pp, .ref im, vse, vtr])), (pad, .inr (0, [.ref sg, .ref sl, .int (nI pm)])), (sg, .inl (gI G, 40, .inl fsg)), (sl, .inl (gI G, 10, .inl fsl)), (pp, .inr (1, [.int (nI k), .int told, .int sp, .int gr1, .ref ac, .ref ak])), (ac, .inl (gI G, 6, .inl fc)), (ak, .inl (gI G, 4, .inl fk))] ++ ([(im, .inl (gP G, 2, .inr (.inr (.inr (.inr fim)))))] ++ (T ++ (Tt ++ (Ta ++ Tb)))), List.Perm.refl _, gr1, ⟨pad, pp, im, ac, ak, sg, sl, vse, vtr, fsl, fim, T, Tt, Ta, Tb, rfl, hSK, hTK, hIa, hIb⟩, by (try dsimp only); unfold cqN; omega, by (try dsimp only); unfold sqN; omega, hu⟩

set_option maxHeartbeats 1000000 in
set_option maxRecDepth 100000 in
theorem x2_holds (l : Launch) (G : Gy) (H0 : Heap) (h0 : Nat) (k : Nat) (pm : Nat) (la : Nat) (told : Int32) (sp : Int32) (fc : Nat → Int32) (fk : Nat → Int32) (fsg : Nat → Int32) (wa : Option PQ) (wb : Option PQ) (c0 : Nat) (b0 : Nat) (ma : Nat → Nat) (w : va_W) (hM : CWd G h0 (nI k, told, sp, nI (sc k la), fc, fk, nI pm, fsg, wa, wb, c0, b0) w) (hk2 : 2 ≤ k) (hk6 : k ≤ 6) (hpm : pm ≤ 40) (hla : la < 5 ^ k) (hcr : CR k told fc ma) (hsp : inR sp 1 6) (p0 : Int32) (p1 : Int32) : LK l G yX9_holds wsX9_holds ({ frames := 4, cells := 0, slots := 0, locals := 91 }) [.ref h0, .int p0, .int p1] w H0 (fun r w2 g nn => CWd G h0 (nI k, told, sp, nI (sc k la), fc, fk, nI pm, fsg, wa, wb, c0, b0) w2 ∧ g + cqN wa wb c0 b0 = cqN wa wb c0 b0 ∧ nn + sqN wa wb c0 b0 = sqN wa wb c0 b0 ∧ (r = hoA k told ma p0 p1)) 0 0 := by
  refine CWd_el hM ?_
  intro pad pp im ac ak sg sl vse vtr fsl fim T Tt Ta Tb hw_q hSK hTK hIa hIb
  subst hw_q
  refine K_0 (wr := [(im, .inl (gP G, 2, .inr (.inr (.inr (.inr fim)))))] ++ (T ++ (Tt ++ (Ta ++ Tb)))) (g_holds l G H0.size h0 pad pp im vse vtr ac ak sg sl k pm la told sp fc fk fsg fsl ma p0 p1 hk2 hk6 hpm hla hcr hsp) (List.Perm.refl _) (fun r u hu => ?_)
  exact ⟨[(h0, .inr (5, [.ref pad, .ref pp, .ref im, vse, vtr])), (pad, .inr (0, [.ref sg, .ref sl, .int (nI pm)])), (sg, .inl (gI G, 40, .inl fsg)), (sl, .inl (gI G, 10, .inl fsl)), (pp, .inr (1, [.int (nI k), .int told, .int sp, .int (nI (sc k la)), .ref ac, .ref ak])), (ac, .inl (gI G, 6, .inl fc)), (ak, .inl (gI G, 4, .inl fk))] ++ ([(im, .inl (gP G, 2, .inr (.inr (.inr (.inr fim)))))] ++ (T ++ (Tt ++ (Ta ++ Tb)))), List.Perm.refl _, ⟨pad, pp, im, ac, ak, sg, sl, vse, vtr, fsl, fim, T, Tt, Ta, Tb, rfl, hSK, hTK, hIa, hIb⟩, by (try dsimp only); unfold cqN; omega, by (try dsimp only); unfold sqN; omega, hu⟩

set_option maxHeartbeats 1000000 in
set_option maxRecDepth 100000 in
theorem x2_drawn (l : Launch) (G : Gy) (H0 : Heap) (h0 : Nat) (k : Nat) (pm : Nat) (la : Nat) (told : Int32) (sp : Int32) (fc : Nat → Int32) (fk : Nat → Int32) (fsg : Nat → Int32) (wa : Option PQ) (wb : Option PQ) (c0 : Nat) (b0 : Nat) (ma : Nat → Nat) (w : va_W) (hM : CWd G h0 (nI k, told, sp, nI (sc k la), fc, fk, nI pm, fsg, wa, wb, c0, b0) w) (hk2 : 2 ≤ k) (hk6 : k ≤ 6) (hpm : pm ≤ 40) (hla : la < 5 ^ k) (hcr : CR k told fc ma) (hsp : inR sp 1 6) (p0 : Int32) (p1 : Int32) (p2 : Int32) (p3 : Int32) (p4 : Int32) : LK l G yX9_drawn wsX9_drawn ({ frames := 6, cells := 0, slots := 0, locals := 137 }) [.ref h0, .int p0, .int p1, .int p2, .int p3, .int p4] w H0 (fun r w2 g nn => CWd G h0 (nI k, told, sp, nI (sc k la), fc, fk, nI pm, fsg, wa, wb, c0, b0) w2 ∧ g + cqN wa wb c0 b0 = cqN wa wb c0 b0 ∧ nn + sqN wa wb c0 b0 = sqN wa wb c0 b0 ∧ (r = dwA k told ma fk p0 p1 p2 p3 p4)) 0 0 := by
  refine CWd_el hM ?_
  intro pad pp im ac ak sg sl vse vtr fsl fim T Tt Ta Tb hw_q hSK hTK hIa hIb
  subst hw_q
  refine K_0 (wr := [(im, .inl (gP G, 2, .inr (.inr (.inr (.inr fim)))))] ++ (T ++ (Tt ++ (Ta ++ Tb)))) (g_drawn l G H0.size h0 pad pp im vse vtr ac ak sg sl k pm la told sp fc fk fsg fsl ma p0 p1 p2 p3 p4 hk2 hk6 hpm hla hcr hsp) (List.Perm.refl _) (fun r u hu => ?_)
  exact ⟨[(h0, .inr (5, [.ref pad, .ref pp, .ref im, vse, vtr])), (pad, .inr (0, [.ref sg, .ref sl, .int (nI pm)])), (sg, .inl (gI G, 40, .inl fsg)), (sl, .inl (gI G, 10, .inl fsl)), (pp, .inr (1, [.int (nI k), .int told, .int sp, .int (nI (sc k la)), .ref ac, .ref ak])), (ac, .inl (gI G, 6, .inl fc)), (ak, .inl (gI G, 4, .inl fk))] ++ ([(im, .inl (gP G, 2, .inr (.inr (.inr (.inr fim)))))] ++ (T ++ (Tt ++ (Ta ++ Tb)))), List.Perm.refl _, ⟨pad, pp, im, ac, ak, sg, sl, vse, vtr, fsl, fim, T, Tt, Ta, Tb, rfl, hSK, hTK, hIa, hIb⟩, by (try dsimp only); unfold cqN; omega, by (try dsimp only); unfold sqN; omega, hu⟩
