/-! ===== the first memory, cell by cell ===== -/
set_option maxHeartbeats 8000000 in
set_option maxRecDepth 100000 in
theorem lo_cells {V : Vx} {ad hid : Nat → Nat} {c n : Nat} {H : Heap} {x : Nat} {e0 : Nat} {e1 : Nat} {e2 : Nat} {e3 : Nat} {e4 : Nat} {e5 : Nat} {e6 : Nat} {r : Nat} {t : Nat → Nat} {a : Nat → Nat → Nat} {y0 : Nat} {y1 : Nat} {y2 : Nat} {y3 : Nat} {y4 : Nat} {y5 : Nat} {y6 : Nat} {y7 : Nat} {z : Nat} {h : Nat} {i : Nat → Nat} {p0 : Nat} {p1 : Nat} {p2 : Nat} {u0 : Nat} {u1 : Nat} (hP : va_P V.1 clv (loE V x e0 e1 e2 e3 e4 e5 e6 r t a y0 y1 y2 y3 y4 y5 y6 y7 z h i p0 p1 p2 u0 u1) H) (hm : cdL.map ad = [x, e0, r, t 0, a 0 0, a 0 1, a 0 2, a 0 3, a 0 4, a 0 5, a 0 6, a 0 7, t 1, a 1 0, a 1 1, a 1 2, a 1 3, a 1 4, a 1 5, a 1 6, a 1 7, t 2, a 2 0, a 2 1, a 2 2, a 2 3, a 2 4, a 2 5, a 2 6, a 2 7, t 3, a 3 0, a 3 1, a 3 2, a 3 3, a 3 4, a 3 5, a 3 6, a 3 7, t 4, a 4 0, a 4 1, a 4 2, a 4 3, a 4 4, a 4 5, a 4 6, a 4 7, t 5, a 5 0, a 5 1, a 5 2, a 5 3, a 5 4, a 5 5, a 5 6, a 5 7, t 6, a 6 0, a 6 1, a 6 2, a 6 3, a 6 4, a 6 5, a 6 6, a 6 7, t 7, a 7 0, a 7 1, a 7 2, a 7 3, a 7 4, a 7 5, a 7 6, a 7 7, t 8, a 8 0, a 8 1, a 8 2, a 8 3, a 8 4, a 8 5, a 8 6, a 8 7, t 9, a 9 0, a 9 1, a 9 2, a 9 3, a 9 4, a 9 5, a 9 6, a 9 7, e1, y0, y1, y2, y3, y4, y5, y6, y7, e2, z, e3, h, i 0, i 1, i 2, i 3, i 4, e4, p0, p1, p2, e5, u0, e6, u1]) (h6 : hid 6 = ad 4006) (h7 : hid 7 = ad 4007) : ∀ e ∈ layL, cellAt (V.1, V.2.1, ad) hid (ini c n) H e := by
  simp only [cdL, List.map_cons, List.map_nil, List.cons.injEq, and_true] at hm
  obtain ⟨m0, m1, m65, m12, m76, m140, m204, m268, m396, m460, m524, m588, m13, m77, m141, m205, m269, m397, m461, m525, m589, m14, m78, m142, m206, m270, m398, m462, m526, m590, m15, m79, m143, m207, m271, m399, m463, m527, m591, m16, m80, m144, m208, m272, m400, m464, m528, m592, m17, m81, m145, m209, m273, m401, m465, m529, m593, m18, m82, m146, m210, m274, m402, m466, m530, m594, m19, m83, m147, m211, m275, m403, m467, m531, m595, m20, m84, m148, m212, m276, m404, m468, m532, m596, m21, m85, m149, m213, m277, m405, m469, m533, m597, m22, m86, m150, m214, m278, m406, m470, m534, m598, m3, m67, m4, m68, m644, m708, m772, m836, m900, m5, m69, m133, m197, m6, m4006, m7, m4007⟩ := hm
  have t12 := in_th (c := c) (n := n) (hid := hid) (t := 12) ⟨by decide, by decide⟩ (hP.sub (ws' := thW V (t 0) (a 0 0) (a 0 1) (a 0 2) (a 0 3) (a 0 4) (a 0 5) (a 0 6) (a 0 7)) [3, 4, 5, 6, 7, 8, 9, 10, 11] rfl) m12 m76 m140 m204 m268 m396 m460 m524 m588
  have t13 := in_th (c := c) (n := n) (hid := hid) (t := 13) ⟨by decide, by decide⟩ (hP.sub (ws' := thW V (t 1) (a 1 0) (a 1 1) (a 1 2) (a 1 3) (a 1 4) (a 1 5) (a 1 6) (a 1 7)) [12, 13, 14, 15, 16, 17, 18, 19, 20] rfl) m13 m77 m141 m205 m269 m397 m461 m525 m589
  have t14 := in_th (c := c) (n := n) (hid := hid) (t := 14) ⟨by decide, by decide⟩ (hP.sub (ws' := thW V (t 2) (a 2 0) (a 2 1) (a 2 2) (a 2 3) (a 2 4) (a 2 5) (a 2 6) (a 2 7)) [21, 22, 23, 24, 25, 26, 27, 28, 29] rfl) m14 m78 m142 m206 m270 m398 m462 m526 m590
  have t15 := in_th (c := c) (n := n) (hid := hid) (t := 15) ⟨by decide, by decide⟩ (hP.sub (ws' := thW V (t 3) (a 3 0) (a 3 1) (a 3 2) (a 3 3) (a 3 4) (a 3 5) (a 3 6) (a 3 7)) [30, 31, 32, 33, 34, 35, 36, 37, 38] rfl) m15 m79 m143 m207 m271 m399 m463 m527 m591
  have t16 := in_th (c := c) (n := n) (hid := hid) (t := 16) ⟨by decide, by decide⟩ (hP.sub (ws' := thW V (t 4) (a 4 0) (a 4 1) (a 4 2) (a 4 3) (a 4 4) (a 4 5) (a 4 6) (a 4 7)) [39, 40, 41, 42, 43, 44, 45, 46, 47] rfl) m16 m80 m144 m208 m272 m400 m464 m528 m592
  have t17 := in_th (c := c) (n := n) (hid := hid) (t := 17) ⟨by decide, by decide⟩ (hP.sub (ws' := thW V (t 5) (a 5 0) (a 5 1) (a 5 2) (a 5 3) (a 5 4) (a 5 5) (a 5 6) (a 5 7)) [48, 49, 50, 51, 52, 53, 54, 55, 56] rfl) m17 m81 m145 m209 m273 m401 m465 m529 m593
  have t18 := in_th (c := c) (n := n) (hid := hid) (t := 18) ⟨by decide, by decide⟩ (hP.sub (ws' := thW V (t 6) (a 6 0) (a 6 1) (a 6 2) (a 6 3) (a 6 4) (a 6 5) (a 6 6) (a 6 7)) [57, 58, 59, 60, 61, 62, 63, 64, 65] rfl) m18 m82 m146 m210 m274 m402 m466 m530 m594
  have t19 := in_th (c := c) (n := n) (hid := hid) (t := 19) ⟨by decide, by decide⟩ (hP.sub (ws' := thW V (t 7) (a 7 0) (a 7 1) (a 7 2) (a 7 3) (a 7 4) (a 7 5) (a 7 6) (a 7 7)) [66, 67, 68, 69, 70, 71, 72, 73, 74] rfl) m19 m83 m147 m211 m275 m403 m467 m531 m595
  have t20 := in_th (c := c) (n := n) (hid := hid) (t := 20) ⟨by decide, by decide⟩ (hP.sub (ws' := thW V (t 8) (a 8 0) (a 8 1) (a 8 2) (a 8 3) (a 8 4) (a 8 5) (a 8 6) (a 8 7)) [75, 76, 77, 78, 79, 80, 81, 82, 83] rfl) m20 m84 m148 m212 m276 m404 m468 m532 m596
  have t21 := in_th (c := c) (n := n) (hid := hid) (t := 21) ⟨by decide, by decide⟩ (hP.sub (ws' := thW V (t 9) (a 9 0) (a 9 1) (a 9 2) (a 9 3) (a 9 4) (a 9 5) (a 9 6) (a 9 7)) [84, 85, 86, 87, 88, 89, 90, 91, 92] rfl) m21 m85 m149 m213 m277 m405 m469 m533 m597
  have t22 := in_th (c := c) (n := n) (hid := hid) (t := 22) ⟨by decide, by decide⟩ (hP.sub (ws' := thW V e1 y0 y1 y2 y3 y4 y5 y6 y7) [93, 94, 95, 96, 97, 98, 99, 100, 101] rfl) m22 m86 m150 m214 m278 m406 m470 m534 m598
  have o0 : cellAt (V.1, V.2.1, ad) hid (ini c n) H (0, 1, 6, 10) := by
    refine in_o (x := 6) rfl m0 (hP 0 _ rfl) (fun k hk => ?_)
    rcases (show k = 0 ∨ k = 1 ∨ k = 2 ∨ k = 3 ∨ k = 4 ∨ k = 5 ∨ k = 6 ∨ k = 7 ∨ k = 8 ∨ k = 9 by omega) with rfl | rfl | rfl | rfl | rfl | rfl | rfl | rfl | rfl | rfl
    · exact fv2 rfl m1
    · exact fv2 rfl m22
    · exact fv2 rfl m3
    · exact fv2 rfl m4
    · exact fv2 rfl m5
    · exact fv2 rfl m6
    · exact fv2 rfl m7
    · exact fv0 rfl rfl
    · exact fv0 rfl rfl
    · exact fv0 rfl rfl
  have o1 : cellAt (V.1, V.2.1, ad) hid (ini c n) H (1, 1, 3, 3) := by
    refine in_o (x := 3) rfl m1 (hP 1 _ rfl) (fun k hk => ?_)
    rcases (show k = 0 ∨ k = 1 ∨ k = 2 by omega) with rfl | rfl | rfl
    · exact fv2 rfl (by rw [srf_n (by decide)]; exact m65)
    · exact fv0 rfl (ini0 (by decide) (by decide) (by decide) _)
    · exact fv0 rfl (ini0 (by decide) (by decide) (by decide) _)
  have o3 : cellAt (V.1, V.2.1, ad) hid (ini c n) H (3, 1, 1, 1) := by
    refine in_o (x := 1) rfl m3 (hP 102 _ rfl) (fun k hk => ?_)
    obtain rfl : k = 0 := by omega
    · exact fv2 rfl (by rw [srf_n (by decide)]; exact m67)
  have o4 : cellAt (V.1, V.2.1, ad) hid (ini c n) H (4, 1, 2, 1) := by
    refine in_o (x := 2) rfl m4 (hP 104 _ rfl) (fun k hk => ?_)
    obtain rfl : k = 0 := by omega
    · exact fv2 rfl (by rw [srf_n (by decide)]; exact m68)
  have o5 : cellAt (V.1, V.2.1, ad) hid (ini c n) H (5, 1, 4, 5) := by
    refine in_o (x := 4) rfl m5 (hP 111 _ rfl) (fun k hk => ?_)
    rcases (show k = 0 ∨ k = 1 ∨ k = 2 ∨ k = 3 ∨ k = 4 by omega) with rfl | rfl | rfl | rfl | rfl
    · exact fv2 rfl (by rw [srf_n (by decide)]; exact m69)
    · exact fv2 rfl (by rw [srf_n (by decide)]; exact m133)
    · exact fv2 rfl (by rw [srf_n (by decide)]; exact m197)
    · exact fv0 rfl (ini0 (by decide) (by decide) (by decide) _)
    · exact fv0 rfl (ini0 (by decide) (by decide) (by decide) _)
  have r65 : cellAt (V.1, V.2.1, ad) hid (ini c n) H (65, 5, 6, 10) := by
    refine ca5 ?_
    show H[ad 65]? = _
    rw [m65]
    refine Eq.trans (hP 2 _ rfl) ?_
    rw [vp_cell_q, arrV_cg (fun j hj => ?_)]
    rcases (show j = 0 ∨ j = 1 ∨ j = 2 ∨ j = 3 ∨ j = 4 ∨ j = 5 ∨ j = 6 ∨ j = 7 ∨ j = 8 ∨ j = 9 by omega) with rfl | rfl | rfl | rfl | rfl | rfl | rfl | rfl | rfl | rfl
    · exact congrArg Value.ref m12.symm
    · exact congrArg Value.ref m13.symm
    · exact congrArg Value.ref m14.symm
    · exact congrArg Value.ref m15.symm
    · exact congrArg Value.ref m16.symm
    · exact congrArg Value.ref m17.symm
    · exact congrArg Value.ref m18.symm
    · exact congrArg Value.ref m19.symm
    · exact congrArg Value.ref m20.symm
    · exact congrArg Value.ref m21.symm
  have r68 : cellAt (V.1, V.2.1, ad) hid (ini c n) H (68, 5, 7, 5) := by
    refine ca5 ?_
    show H[ad 68]? = _
    rw [m68]
    refine Eq.trans (hP 105 _ rfl) ?_
    rw [vp_cell_q, arrV_cg (fun j hj => ?_)]
    rcases (show j = 0 ∨ j = 1 ∨ j = 2 ∨ j = 3 ∨ j = 4 by omega) with rfl | rfl | rfl | rfl | rfl
    · exact congrArg Value.ref m644.symm
    · exact congrArg Value.ref m708.symm
    · exact congrArg Value.ref m772.symm
    · exact congrArg Value.ref m836.symm
    · exact congrArg Value.ref m900.symm
  have b6 : cellAt (V.1, V.2.1, ad) hid (ini c n) H (6, 6, 0, 4) := by
    refine ca6 ?_
    obtain ⟨r1, hr, hOB⟩ := (hP 115 _ rfl)
    have hq : r1 = (RJ4, TJ4, 4) := Option.some.inj (Eq.symm hr)
    subst hq
    refine ⟨0, fun _ => 0, ?_, ?_, Nat.zero_le _, by show 16 ≤ 65536; decide, fun j hj => absurd hj (Nat.not_lt_zero _), sb_fit0⟩
    · show t_OB (ad 6) _ _ _ _ _
      rw [m6, h6, m4006]
      refine hOB.to (fun k hk => ?_)
      rcases (show k = 0 ∨ k = 1 ∨ k = 2 ∨ k = 3 by have : k < 4 := hk; omega) with rfl | rfl | rfl | rfl <;> rfl
    · rw [h6, m4006]
      exact (hP 116 _ rfl)
  have b7 : cellAt (V.1, V.2.1, ad) hid (ini c n) H (7, 6, 0, 4) := by
    refine ca6 ?_
    obtain ⟨r1, hr, hOB⟩ := (hP 117 _ rfl)
    have hq : r1 = (RJ4, TJ4, 4) := Option.some.inj (Eq.symm hr)
    subst hq
    refine ⟨0, fun _ => 0, ?_, ?_, Nat.zero_le _, by show 16 ≤ 65536; decide, fun j hj => absurd hj (Nat.not_lt_zero _), sb_fit0⟩
    · show t_OB (ad 7) _ _ _ _ _
      rw [m7, h7, m4007]
      refine hOB.to (fun k hk => ?_)
      rcases (show k = 0 ∨ k = 1 ∨ k = 2 ∨ k = 3 by have : k < 4 := hk; omega) with rfl | rfl | rfl | rfl <;> rfl
    · rw [h7, m4007]
      exact (hP 118 _ rfl)
  have hl : layL = [(0, 1, 6, 10), (1, 1, 3, 3), (3, 1, 1, 1), (67, 2, 0, 9), (4, 1, 2, 1), (5, 1, 4, 5), (69, 2, 0, 10), (133, 2, 0, 10), (197, 2, 0, 10)] ++ ([(12, 1, 5, 15), (76, 2, 0, 8), (140, 2, 0, 8), (204, 2, 1, 8), (268, 2, 0, 8), (396, 2, 0, 24), (460, 2, 0, 24), (524, 2, 0, 24), (588, 2, 0, 24)] ++ ([(13, 1, 5, 15), (77, 2, 0, 8), (141, 2, 0, 8), (205, 2, 1, 8), (269, 2, 0, 8), (397, 2, 0, 24), (461, 2, 0, 24), (525, 2, 0, 24), (589, 2, 0, 24)] ++ ([(14, 1, 5, 15), (78, 2, 0, 8), (142, 2, 0, 8), (206, 2, 1, 8), (270, 2, 0, 8), (398, 2, 0, 24), (462, 2, 0, 24), (526, 2, 0, 24), (590, 2, 0, 24)] ++ ([(15, 1, 5, 15), (79, 2, 0, 8), (143, 2, 0, 8), (207, 2, 1, 8), (271, 2, 0, 8), (399, 2, 0, 24), (463, 2, 0, 24), (527, 2, 0, 24), (591, 2, 0, 24)] ++ ([(16, 1, 5, 15), (80, 2, 0, 8), (144, 2, 0, 8), (208, 2, 1, 8), (272, 2, 0, 8), (400, 2, 0, 24), (464, 2, 0, 24), (528, 2, 0, 24), (592, 2, 0, 24)] ++ ([(17, 1, 5, 15), (81, 2, 0, 8), (145, 2, 0, 8), (209, 2, 1, 8), (273, 2, 0, 8), (401, 2, 0, 24), (465, 2, 0, 24), (529, 2, 0, 24), (593, 2, 0, 24)] ++ ([(18, 1, 5, 15), (82, 2, 0, 8), (146, 2, 0, 8), (210, 2, 1, 8), (274, 2, 0, 8), (402, 2, 0, 24), (466, 2, 0, 24), (530, 2, 0, 24), (594, 2, 0, 24)] ++ ([(19, 1, 5, 15), (83, 2, 0, 8), (147, 2, 0, 8), (211, 2, 1, 8), (275, 2, 0, 8), (403, 2, 0, 24), (467, 2, 0, 24), (531, 2, 0, 24), (595, 2, 0, 24)] ++ ([(20, 1, 5, 15), (84, 2, 0, 8), (148, 2, 0, 8), (212, 2, 1, 8), (276, 2, 0, 8), (404, 2, 0, 24), (468, 2, 0, 24), (532, 2, 0, 24), (596, 2, 0, 24)] ++ ([(21, 1, 5, 15), (85, 2, 0, 8), (149, 2, 0, 8), (213, 2, 1, 8), (277, 2, 0, 8), (405, 2, 0, 24), (469, 2, 0, 24), (533, 2, 0, 24), (597, 2, 0, 24)] ++ ([(22, 1, 5, 15), (86, 2, 0, 8), (150, 2, 0, 8), (214, 2, 1, 8), (278, 2, 0, 8), (406, 2, 0, 24), (470, 2, 0, 24), (534, 2, 0, 24), (598, 2, 0, 24)] ++ [(65, 5, 6, 10), (68, 5, 7, 5), (644, 2, 0, 24), (708, 2, 0, 24), (772, 2, 0, 24), (836, 2, 0, 24), (900, 2, 0, 24), (6, 6, 0, 4), (7, 6, 0, 4)]))))))))))) := rfl
  rw [hl]
  refine List.forall_mem_append.mpr ⟨List.forall_mem_cons.mpr ⟨o0, List.forall_mem_cons.mpr ⟨o1, List.forall_mem_cons.mpr ⟨o3, List.forall_mem_cons.mpr ⟨in_a m67 (hP 103 _ rfl) (fun j => ini0 (by decide) (by decide) (by decide) j), List.forall_mem_cons.mpr ⟨o4, List.forall_mem_cons.mpr ⟨o5, List.forall_mem_cons.mpr ⟨in_a m69 (hP 112 _ rfl) (fun j => ini0 (by decide) (by decide) (by decide) j), List.forall_mem_cons.mpr ⟨in_a m133 (hP 113 _ rfl) (fun j => ini0 (by decide) (by decide) (by decide) j), List.forall_mem_cons.mpr ⟨in_a m197 (hP 114 _ rfl) (fun j => ini0 (by decide) (by decide) (by decide) j), fun _ h => absurd h List.not_mem_nil⟩⟩⟩⟩⟩⟩⟩⟩⟩, ?_⟩
  exact List.forall_mem_append.mpr ⟨t12, List.forall_mem_append.mpr ⟨t13, List.forall_mem_append.mpr ⟨t14, List.forall_mem_append.mpr ⟨t15, List.forall_mem_append.mpr ⟨t16, List.forall_mem_append.mpr ⟨t17, List.forall_mem_append.mpr ⟨t18, List.forall_mem_append.mpr ⟨t19, List.forall_mem_append.mpr ⟨t20, List.forall_mem_append.mpr ⟨t21, List.forall_mem_append.mpr ⟨t22, List.forall_mem_cons.mpr ⟨r65, List.forall_mem_cons.mpr ⟨r68, List.forall_mem_cons.mpr ⟨in_a m644 (hP 106 _ rfl) (fun j => ini0 (by decide) (by decide) (by decide) j), List.forall_mem_cons.mpr ⟨in_a m708 (hP 107 _ rfl) (fun j => ini0 (by decide) (by decide) (by decide) j), List.forall_mem_cons.mpr ⟨in_a m772 (hP 108 _ rfl) (fun j => ini0 (by decide) (by decide) (by decide) j), List.forall_mem_cons.mpr ⟨in_a m836 (hP 109 _ rfl) (fun j => ini0 (by decide) (by decide) (by decide) j), List.forall_mem_cons.mpr ⟨in_a m900 (hP 110 _ rfl) (fun j => ini0 (by decide) (by decide) (by decide) j), List.forall_mem_cons.mpr ⟨b6, List.forall_mem_cons.mpr ⟨b7, fun _ h => absurd h List.not_mem_nil⟩⟩⟩⟩⟩⟩⟩⟩⟩⟩⟩⟩⟩⟩⟩⟩⟩⟩⟩⟩
