/-! ===== the reference: refusals ===== -/
/-- the reference's code of a refusal: the place among the exceptions of its kind -/
def pcd (kind : Nat) : Nat ⊕ Nat × Nat → Nat
  | .inl c => ([[0, 0, 0, 1, 2], [0, 0, 1, 2, 3], [0, 0, 1, 2, 3], [0, 0, 1, 2, 3], [0, 1, 2, 0, 3], [0, 1, 0, 0, 2], [0, 1, 0, 2, 3], [0, 1, 0, 0, 2], [0, 0, 1, 0, 2], [0, 0, 1, 0, 2], [0, 0, 2, 1, 0], [0, 0, 1, 0, 2]].getD kind []).getD c 0
  | .inr _ => 0
section
variable {s : Mem} {T : Th} {n : Nat}
theorem bs {α : Type} {x : α} : ¬ bI (some x).isSome = 0 := (by decide : ¬ bI true = 0)
theorem r_n0 (h : RF 136 0 s T) (w : Sz T) (p : Int32) : m_X8_notAddRow p s = some (nI (pcd 0 (rs0 T p))) := by
  have hR := w.1
  have hg : gI s 136 (0 : Int32).toNatClampNeg = nI (tR T) := h.rR
  unfold m_X8_notAddRow rs0
  rw [show m_X8_isBetween p 1 12 s = m_X8_isBetween p (nI 1) (nI 12) s from rfl, r_within (by omega), bO_some, if_pos (show ib (0 : Int32) 135 by decide), hg]
  cases nbp 12 p with
  | none => rfl
  | some c =>
    rw [if_pos bs]
    dsimp only
    by_cases z : tR T < 8
    · rw [if_pos (show ¬ nI (tR T) = 8 from fun v => by rw [show (8 : Int32) = nI 8 from rfl, nE (by omega) (by decide)] at v; omega), if_pos z]; rfl
    · rw [if_neg (show ¬ ¬ nI (tR T) = 8 from fun v => v (by rw [show tR T = 8 by omega]; rfl)), if_neg z]; rfl
theorem r_n1 (h : RF 136 0 s T) (w : Sz T) (p q : Int32) : m_X8_notAddPhantoms p q s = some (nI (pcd 1 (rs1 T p q))) := by
  have hR := w.1
  unfold m_X8_notAddPhantoms rs1
  rw [r_isRow h w, bO_some, show m_X8_isBetween q 1 6 s = m_X8_isBetween q (nI 1) (nI 6) s from rfl, r_within (by omega), bO_some]
  cases e : rwp T p with
  | none => rfl
  | some r =>
    obtain ⟨h1, rfl⟩ := rwp_lt e
    rw [if_pos bs, r_isLocked h w h1, bO_some, show (1 : Int32) = nI 1 from rfl, r_P h w h1, bO_some]
    cases e2 : nbp 6 q with
    | none => rfl
    | some a =>
      obtain ⟨h2, h3, rfl⟩ := nbp_lt e2
      have h4 := (w.2.2.2.2 r).2.1
      rw [if_pos bs, nI_add]
      dsimp only
      cases tK T r with
      | true => rfl
      | false =>
        rw [if_neg (show ¬ ¬ bI false = 0 by decide)]
        by_cases z : tP T r + a ≤ 6
        · rw [if_pos (show nI (tP T r + a) ≤ 6 by rw [show (6 : Int32) = nI 6 from rfl, nLe (by omega) (by decide)]; exact z), if_pos ⟨rfl, z⟩]; rfl
        · rw [if_neg (show ¬ nI (tP T r + a) ≤ 6 by rw [show (6 : Int32) = nI 6 from rfl, nLe (by omega) (by decide)]; exact z), if_neg (fun v => z v.2)]; rfl
theorem r_n2 (h : RF 136 0 s T) (w : Sz T) (W : WT n T) (p q : Int32) : m_X8_notRemovePhantoms p q s = some (nI (pcd 2 (rs2 T p q))) := by
  have hR := w.1
  unfold m_X8_notRemovePhantoms rs2
  rw [r_isRow h w, bO_some, show m_X8_isBetween q 1 6 s = m_X8_isBetween q (nI 1) (nI 6) s from rfl, r_within (by omega), bO_some]
  cases e : rwp T p with
  | none => rfl
  | some r =>
    obtain ⟨h1, rfl⟩ := rwp_lt e
    have h6 := W.full h1
    rw [if_pos bs, r_isLocked h w h1, bO_some, show (1 : Int32) = nI 1 from rfl, r_P h w h1, bO_some, r_roomIn h w h1 h6, bO_some]
    cases e2 : nbp 6 q with
    | none => rfl
    | some a =>
      obtain ⟨h2, h3, rfl⟩ := nbp_lt e2
      have h4 := (w.2.2.2.2 r).2.1
      have h5 := (w.2.2.2.2 r).1
      rw [if_pos bs]
      dsimp only
      cases tK T r with
      | true => rfl
      | false =>
        rw [if_neg (show ¬ ¬ bI false = 0 by decide)]
        simp (disch := omega) only [nL, nLe]
        by_cases z : tP T r < a
        · rw [if_pos z, if_neg (by omega)]; rfl
        · rw [if_neg z]
          by_cases y : cnt T r + a ≤ tC T r + tP T r
          · rw [if_pos (by omega), if_pos ⟨trivial, by omega, y⟩]; rfl
          · rw [if_neg (by omega), if_neg (by omega)]; rfl
theorem r_n3 (h : RF 136 0 s T) (w : Sz T) (W : WT n T) (p q : Int32) : m_X8_notAdd p q s = some (nI (pcd 3 (rs3 T p q))) := by
  have hR := w.1
  have hN := w.2.1
  have hg : gI s 136 (1 : Int32).toNatClampNeg = nI (tN T) := h.rN
  unfold m_X8_notAdd rs3
  rw [r_isRow h w, bO_some, show m_X8_isBetween q 1 999 s = m_X8_isBetween q (nI 1) (nI 999) s from rfl, r_within (by omega), bO_some]
  cases e : rwp T p with
  | none => rfl
  | some r =>
    obtain ⟨h1, rfl⟩ := rwp_lt e
    have h6 := W.full h1
    rw [if_pos bs, r_isLocked h w h1, bO_some, r_roomIn h w h1 h6, bO_some, if_pos (show ib (1 : Int32) 135 by decide), hg]
    cases e2 : nbp 999 q with
    | none => rfl
    | some a =>
      obtain ⟨h2, h3, rfl⟩ := nbp_lt e2
      have h4 := (w.2.2.2.2 r).2.1
      have h5 := (w.2.2.2.2 r).1
      rw [if_pos bs]
      dsimp only
      cases tK T r with
      | true => rfl
      | false =>
        rw [if_neg (show ¬ ¬ bI false = 0 by decide)]
        simp (disch := omega) only [ltI, nE]
        by_cases z : cnt T r < tC T r + tP T r
        · rw [if_neg (by omega)]
          by_cases y : tN T < 24
          · rw [if_pos (by omega), if_pos ⟨trivial, z, y⟩]; rfl
          · rw [if_neg (by omega), if_neg (by omega)]; rfl
        · rw [if_pos (by omega), if_neg (by omega)]; rfl
theorem eo_ge {o : Option Nat} (h : ∀ x, o = some x → x < 2 ^ 31) : (0 ≤ eo o) = (o ≠ none) := by
  apply propext
  cases o with
  | none => exact ⟨fun z => absurd z (by decide), fun z => absurd rfl z⟩
  | some x => exact ⟨fun _ z => (by cases z), fun _ => nI_pos' (h x rfl)⟩
theorem r_n4 (h : RF 136 0 s T) (w : Sz T) (W : WT n T) (p q : Int32) : m_X8_notMove p q s = some (nI (pcd 4 (rs4 T p q))) := by
  have hR := w.1
  have hN := w.2.1
  unfold m_X8_notMove rs4
  rw [r_slotOf h w, bO_some, r_isRow h w, bO_some]
  cases e : sltp T p with
  | none => rfl
  | some k =>
    obtain ⟨h1, rfl⟩ := sltp_lt e
    rw [if_pos (show 0 ≤ eo (some k) from nI_pos' (by omega))]
    cases e2 : rwp T q with
    | none => rfl
    | some r =>
      obtain ⟨h2, rfl⟩ := rwp_lt e2
      have h3 := (w.2.2.2.1 k h1).2.1
      have h4 := (w.2.2.2.2 r).2.1
      have h5 := (w.2.2.2.2 r).1
      have h6 := W.full h2
      rw [if_pos bs, show eo (some k) = nI k from rfl, show (1 : Int32) = nI 1 from rfl, r_W h w h1, bO_some, r_isLocked h w h3, bO_some, r_isLocked h w h2, bO_some, r_roomIn h w h2 h6, bO_some]
      simp (disch := omega) only [ltI, nE]
      by_cases z : tW T k = r
      · rw [if_pos z, if_neg (fun v => v.1 z)]; rfl
      · rw [if_neg z]
        cases tK T (tW T k) with
        | true => rw [if_pos (show ¬ bI true = nI 0 by decide), if_neg (fun v => Bool.noConfusion v.2.1)]; rfl
        | false =>
          rw [if_neg (show ¬ ¬ bI false = nI 0 by decide)]
          cases tK T r with
          | true => rw [if_pos (show ¬ bI true = nI 0 by decide), if_neg (fun v => Bool.noConfusion v.2.2.1)]; rfl
          | false =>
            rw [if_neg (show ¬ ¬ bI false = nI 0 by decide)]
            by_cases y : cnt T r < tC T r + tP T r
            · rw [if_pos (by omega), if_pos ⟨z, rfl, rfl, y⟩]; rfl
            · rw [if_neg (by omega), if_neg (fun v => y v.2.2.2)]; rfl
theorem r_n5 (h : RF 136 0 s T) (w : Sz T) (p : Int32) : m_X8_notRemove p s = some (nI (pcd 5 (rs5 T p))) := by
  have hN := w.2.1
  unfold m_X8_notRemove rs5
  rw [r_slotOf h w, bO_some]
  cases e : sltp T p with
  | none => rfl
  | some k =>
    obtain ⟨h1, rfl⟩ := sltp_lt e
    have h3 := (w.2.2.2.1 k h1).2.1
    rw [if_pos (show 0 ≤ eo (some k) from nI_pos' (by omega)), show eo (some k) = nI k from rfl, show (1 : Int32) = nI 1 from rfl, r_W h w h1, bO_some, r_isLocked h w h3, bO_some]
    dsimp only
    cases tK T (tW T k) <;> rfl
theorem r_n6 (h : RF 136 0 s T) (w : Sz T) (W : WT n T) (p q : Int32) : m_X8_notSetHeir p q s = some (nI (pcd 6 (rs6 T p q))) := by
  have hN := w.2.1
  have hX := w.2.2.1.1
  unfold m_X8_notSetHeir rs6
  simp only [r_slotOf h w, bO_some]
  cases e : sltp T p with
  | none => rfl
  | some k =>
    obtain ⟨h1, rfl⟩ := sltp_lt e
    rw [if_neg (show ¬ eo (some k) < 0 from nI_pos (by omega))]
    cases e2 : sltp T q with
    | none => rfl
    | some j =>
      obtain ⟨h2, rfl⟩ := sltp_lt e2
      have h3 := (w.2.2.2.1 k h1).1
      have h4 := (w.2.2.2.1 j h2).1
      rw [if_pos (show 0 ≤ eo (some j) from nI_pos' (by omega)), show eo (some k) = nI k from rfl, show eo (some j) = nI j from rfl, r_comesTo h w W h2 h1, bO_some]
      simp (disch := omega) only [nE]
      by_cases z : k = j
      · subst z
        rw [if_neg (fun v => v rfl), if_pos rfl]
        rfl
      · rw [if_pos (fun v => z (W.inj h1 h2 v)), if_neg z]
        cases pasb T j k <;> rfl
theorem r_n7 (h : RF 136 0 s T) (w : Sz T) (p : Int32) : m_X8_notClearHeir p s = some (nI (pcd 7 (rs7 T p))) := by
  have hN := w.2.1
  have hX := w.2.2.1.1
  unfold m_X8_notClearHeir rs7
  simp only [r_slotOf h w, bO_some]
  cases e : sltp T p with
  | none => rfl
  | some k =>
    obtain ⟨h1, rfl⟩ := sltp_lt e
    rw [if_pos (show 0 ≤ eo (some k) from nI_pos' (by omega)), show eo (some k) = nI k from rfl, show (3 : Int32) = nI 3 from rfl, r_H h w h1, bO_some]
    dsimp only
    cases e2 : tH T k with
    | none => rfl
    | some d =>
      have h4 := (w.2.2.2.1 k h1).2.2.2.2 d e2
      rw [show e1 (some d) = nI (d + 1) from rfl, if_pos (show ¬ nI (d + 1) = 0 from nI_ne0 (by omega) (by omega)), if_neg (fun v => by cases v)]
      rfl
theorem r_n8 (h : RF 136 0 s T) (w : Sz T) (b : Bool) (p : Int32) {k : Nat} (hk : k = 8 ∨ k = 9) : m_X8_notLock p (bI b) s = some (nI (pcd k (rs8 b T p))) := by
  unfold m_X8_notLock rs8
  rw [r_isRow h w, bO_some]
  cases e : rwp T p with
  | none => rcases hk with rfl | rfl <;> rfl
  | some r =>
    obtain ⟨h1, rfl⟩ := rwp_lt e
    rw [if_pos bs, show (2 : Int32) = nI 2 from rfl, r_K h w h1, bO_some]
    dsimp only
    rcases hk with rfl | rfl <;> cases tK T r <;> cases b <;> rfl
theorem r_n10 (h : RF 136 0 s T) (w : Sz T) (p q : Int32) : m_X8_notName p q s = some (nI (pcd 10 (rs10 T p q))) := by
  unfold m_X8_notName rs10
  rw [r_isBox, bO_some, r_isRow h w, bO_some]
  cases bxp p with
  | none => rfl
  | some b => cases rwp T q <;> rfl
theorem r_n11 (h : RF 136 0 s T) (w : Sz T) (p : Int32) : m_X8_notSpread p s = some (nI (pcd 11 (rs8 true T p))) := by
  unfold m_X8_notSpread rs8
  rw [r_isRow h w, bO_some]
  cases e : rwp T p with
  | none => rfl
  | some r =>
    obtain ⟨h1, rfl⟩ := rwp_lt e
    rw [if_pos bs, r_isLocked h w h1, bO_some]
    dsimp only
    cases tK T r <;> rfl
end
