/-! Each call: the program and the reference answer the same, and stand for the same state again. -/
def lx_P (l : Launch) (D : va_G) (n q f : Nat) (ad1 ad2 : Nat × Nat → Nat) (cI cZ cS cA : ClassId) (M1 M2 : fr_M) (y1 y2 : MethodName) (b1 b2 : ByteArray) (mL1 mL2 : Nat) (ret : Option FieldType) (As : List Value) : Prop :=
  ∃ (r : Int32) (S' : pz_T) (Pm1 Pm2 : fr_M → Prop) (fr1 lo1 fr2 lo2 : Nat), (fr1 ≤ 8 ∧ lo1 ≤ 200 ∧ fr2 ≤ 8 ∧ lo2 ≤ 200) ∧
    fb_C l D n ad1 cI cZ cS cA y1 b1 mL1 ret fr1 lo1 M1 (.ref (ad1 (0, 0)) :: As) (some (.int r)) Pm1 ∧ (∀ M, Pm1 M → fr_I n q f S' M) ∧
    gm_C l D ad2 cI cZ y2 b2 mL2 ret fr2 lo2 M2 (.ref (ad2 (0, 0)) :: As) (some (.int r)) Pm2 ∧ ∀ M, Pm2 M → gm_I n q f S' M
theorem lx_cl (x : Int32) (N : Nat) (hN : N < 2 ^ 31) : (x < 0 ∨ nI N ≤ x) ∨ ∃ j, j < N ∧ x = nI j := by
  by_cases h0 : x < 0
  · exact Or.inl (Or.inl h0)
  · obtain ⟨j, hj, rfl⟩ := nI_of h0
    by_cases h : j < N
    · exact Or.inr ⟨j, h, rfl⟩
    · exact Or.inl (Or.inr (nI_le (by omega) hj))
theorem lx_cl1 (x : Int32) (N : Nat) (hN : N < 2 ^ 31) : (x < nI 1 ∨ nI N < x) ∨ ∃ j, 1 ≤ j ∧ j ≤ N ∧ x = nI j := by
  by_cases h0 : x < nI 1
  · exact Or.inl (Or.inl h0)
  · have h1 : ¬ x < 0 := fun z => h0 (Int32.lt_trans z (by decide))
    obtain ⟨j, hj, rfl⟩ := nI_of h1
    have h2 : ¬ j < 1 := fun z => h0 (nI_lt z (by omega))
    by_cases h : N < j
    · exact Or.inl (Or.inr (nI_lt h hj))
    · exact Or.inr ⟨j, by omega, by omega, rfl⟩
theorem lx_cl8 (x : Int32) : (¬ x = nI 8 ∧ ¬ x = nI 9) ∨ ∃ c, c < 2 ∧ x = nI (8 + c) := by
  by_cases h8 : x = nI 8
  · exact Or.inr ⟨0, by omega, h8⟩
  · by_cases h9 : x = nI 9
    · exact Or.inr ⟨1, by omega, h9⟩
    · exact Or.inl ⟨h8, h9⟩
section LX
variable {l : Launch} {D : va_G} {n q f : Nat} {ad1 ad2 : Nat × Nat → Nat} {cI cZ cS cA : ClassId} {S : pz_T} {M1 M2 : fr_M}
theorem lx_same {y1 y2 : MethodName} {b1 b2 : ByteArray} {mL1 mL2 fr1 lo1 fr2 lo2 : Nat} {ret : Option FieldType} {As : List Value} {r : Int32} (h1 : fr_I n q f S M1) (h2 : gm_I n q f S M2) (hb : fr1 ≤ 8 ∧ lo1 ≤ 200 ∧ fr2 ≤ 8 ∧ lo2 ≤ 200)
    (c1 : fb_C l D n ad1 cI cZ cS cA y1 b1 mL1 ret fr1 lo1 M1 (.ref (ad1 (0, 0)) :: As) (some (.int r)) (fun M' => M' = M1)) (c2 : gm_C l D ad2 cI cZ y2 b2 mL2 ret fr2 lo2 M2 (.ref (ad2 (0, 0)) :: As) (some (.int r)) (fun M' => M' = M2)) : lx_P l D n q f ad1 ad2 cI cZ cS cA M1 M2 y1 y2 b1 b2 mL1 mL2 ret As :=
  ⟨r, S, _, _, fr1, lo1, fr2, lo2, hb, c1, fun M h => by rw [h]; exact h1, c2, fun M h => by rw [h]; exact h2⟩
theorem lx_step {y1 y2 : MethodName} {b1 b2 : ByteArray} {mL1 mL2 fr1 lo1 fr2 lo2 : Nat} {ret : Option FieldType} {As : List Value} {r : Int32} {S' : pz_T} (hb : fr1 ≤ 8 ∧ lo1 ≤ 200 ∧ fr2 ≤ 8 ∧ lo2 ≤ 200)
    (c1 : fb_C l D n ad1 cI cZ cS cA y1 b1 mL1 ret fr1 lo1 M1 (.ref (ad1 (0, 0)) :: As) (some (.int r)) (fr_I n q f S')) (c2 : gm_C l D ad2 cI cZ y2 b2 mL2 ret fr2 lo2 M2 (.ref (ad2 (0, 0)) :: As) (some (.int r)) (gm_I n q f S')) : lx_P l D n q f ad1 ad2 cI cZ cS cA M1 M2 y1 y2 b1 b2 mL1 mL2 ret As :=
  ⟨r, S', _, _, fr1, lo1, fr2, lo2, hb, c1, fun M h => h, c2, fun M h => h⟩
theorem lx_propose (Q : pz_Q n q f) (h1 : fr_I n q f S M1) (h2 : gm_I n q f S M2) {x y : Int32} : lx_P l D n q f ad1 ad2 cI cZ cS cA M1 M2 my_FB_propose my_Mod_propose mb_FB_propose mb_Mod_propose 4 3 (some .int) [.int x, .int y] := by
  have hn := Q.2.1; have hq5 : q ≤ 5 := Nat.le_trans Q.2.2.2.1 hn; have hf5 : f ≤ 5 := Nat.le_trans Q.2.2.2.2.2.1 hn; have h60 : S.1.length ≤ 60 := h1.1.1
  rcases lx_cl x 3 (by decide) with hx | ⟨s, hs, rfl⟩
  · exact lx_same h1 h2 ⟨by decide, by decide, by decide, by decide⟩ (k_propose_b1 l D ad1 cI cZ cS cA hx) (r_propose_b1 l D ad2 cI cZ hx)
  · rcases lx_cl1 y 1000 (by decide) with hy | ⟨v, hv1, hv2, rfl⟩
    · exact lx_same h1 h2 ⟨by decide, by decide, by decide, by decide⟩ (k_propose_b2 l D ad1 cI cZ cS cA hs hy) (r_propose_b2 l D ad2 cI cZ hs hy)
    · exact lx_step ⟨by decide, by decide, by decide, by decide⟩ (k_propose l D ad1 cI cZ cS cA hn hq5 hf5 Q h1 hs hv1 hv2) (r_propose l D ad2 cI cZ hn hq5 hf5 Q h2 hs hv1 hv2)
theorem lx_begin (Q : pz_Q n q f) (h1 : fr_I n q f S M1) (h2 : gm_I n q f S M2) {x y : Int32} : lx_P l D n q f ad1 ad2 cI cZ cS cA M1 M2 my_FB_begin my_Mod_begin mb_FB_begin mb_Mod_begin 5 5 (some .int) [.int x, .int y] := by
  have hn := Q.2.1; have hq5 : q ≤ 5 := Nat.le_trans Q.2.2.2.1 hn; have hf5 : f ≤ 5 := Nat.le_trans Q.2.2.2.2.2.1 hn; have h60 : S.1.length ≤ 60 := h1.1.1
  rcases lx_cl x 3 (by decide) with hx | ⟨s, hs, rfl⟩
  · exact lx_same h1 h2 ⟨by decide, by decide, by decide, by decide⟩ (k_begin_b1 l D ad1 cI cZ cS cA hx) (r_begin_b1 l D ad2 cI cZ hx)
  · rcases lx_cl1 y 12 (by decide) with hy | ⟨r, hr1, hr2, rfl⟩
    · exact lx_same h1 h2 ⟨by decide, by decide, by decide, by decide⟩ (k_begin_b2 l D ad1 cI cZ cS cA hs hy) (r_begin_b2 l D ad2 cI cZ hs hy)
    · by_cases hno : S.2 3 14 (8 + pz_ci r) 0 = 0 ∧ S.2 s 8 (pz_ci r) 0 < r
      · exact lx_step ⟨by decide, by decide, by decide, by decide⟩ (k_begin l D ad1 cI cZ cS cA hn hq5 hf5 Q h1 hs hr1 hr2 rfl hno.1 hno.2) (r_begin l D ad2 cI cZ hn hq5 hf5 Q h2 hs hr1 hr2 rfl hno.1 hno.2)
      · have hno2 : S.2 3 14 (8 + pz_ci r) 0 ≠ 0 ∨ r ≤ S.2 s 8 (pz_ci r) 0 := by omega
        exact lx_same h1 h2 ⟨by decide, by decide, by decide, by decide⟩ (k_begin_no l D ad1 cI cZ cS cA hn hq5 hf5 Q h1 hs hr1 hr2 rfl hno2) (r_begin_no l D ad2 cI cZ hn hq5 hf5 Q h2 hs hr1 hr2 rfl hno2)
theorem lx_deliver (Q : pz_Q n q f) (h1 : fr_I n q f S M1) (h2 : gm_I n q f S M2) {x : Int32} : lx_P l D n q f ad1 ad2 cI cZ cS cA M1 M2 my_FB_deliver my_Mod_deliver mb_FB_deliver mb_Mod_deliver 4 9 (some .int) [.int x] := by
  have hn := Q.2.1; have hq5 : q ≤ 5 := Nat.le_trans Q.2.2.2.1 hn; have hf5 : f ≤ 5 := Nat.le_trans Q.2.2.2.2.2.1 hn; have h60 : S.1.length ≤ 60 := h1.1.1
  rcases lx_cl x S.1.length (by omega) with hx | ⟨j, hj, rfl⟩
  · exact lx_same h1 h2 ⟨by decide, by decide, by decide, by decide⟩ (k_deliver_b l D ad1 cI cZ cS cA hn h1 hx) (r_deliver_b l D ad2 cI cZ hn h2 hx)
  · have hg := List.getElem?_eq_getElem hj
    exact lx_step ⟨by decide, by decide, by decide, by decide⟩ (k_deliver l D ad1 cI cZ cS cA hn hq5 hf5 Q h1 hg) (r_deliver l D ad2 cI cZ hn hq5 hf5 Q h2 hg)
theorem lx_drop (Q : pz_Q n q f) (h1 : fr_I n q f S M1) (h2 : gm_I n q f S M2) {x : Int32} : lx_P l D n q f ad1 ad2 cI cZ cS cA M1 M2 my_FB_drop my_Mod_drop mb_FB_drop mb_Mod_drop 2 2 (some .boolean) [.int x] := by
  have hn := Q.2.1; have hq5 : q ≤ 5 := Nat.le_trans Q.2.2.2.1 hn; have hf5 : f ≤ 5 := Nat.le_trans Q.2.2.2.2.2.1 hn; have h60 : S.1.length ≤ 60 := h1.1.1
  rcases lx_cl x S.1.length (by omega) with hx | ⟨j, hj, rfl⟩
  · exact lx_same h1 h2 ⟨by decide, by decide, by decide, by decide⟩ (k_drop_b l D ad1 cI cZ cS cA hn h1 hx) (r_drop_b l D ad2 cI cZ hn h2 hx)
  · exact lx_step ⟨by decide, by decide, by decide, by decide⟩ (k_drop l D ad1 cI cZ cS cA hn h1 hj) (r_drop l D ad2 cI cZ hn h2 hj)
theorem lx_halt (Q : pz_Q n q f) (h1 : fr_I n q f S M1) (h2 : gm_I n q f S M2) {x : Int32} {b : Nat} (hb : b ≤ 1) : lx_P l D n q f ad1 ad2 cI cZ cS cA M1 M2 my_FB_halt my_Mod_halt mb_FB_halt mb_Mod_halt 3 3 (some .boolean) [.int x, .int (nI b)] := by
  have hn := Q.2.1; have hq5 : q ≤ 5 := Nat.le_trans Q.2.2.2.1 hn; have hf5 : f ≤ 5 := Nat.le_trans Q.2.2.2.2.2.1 hn; have h60 : S.1.length ≤ 60 := h1.1.1
  rcases lx_cl x n (by omega) with hx | ⟨w, hw, rfl⟩
  · by_cases h8 : x = nI 8 ∨ x = nI 9
    · obtain ⟨w, hw, rfl⟩ : ∃ w, (w = 8 ∨ w = 9) ∧ x = nI w := by
        rcases h8 with h | h
        · exact ⟨8, Or.inl rfl, h⟩
        · exact ⟨9, Or.inr rfl, h⟩
      by_cases e : S.2 3 14 w 0 = b
      · exact lx_same h1 h2 ⟨by decide, by decide, by decide, by decide⟩ (k_haltC0 l D ad1 cI cZ cS cA hn h1 hb e hw) (r_haltC0 l D ad2 cI cZ hn h2 hb e (by omega) (by omega))
      · exact lx_step ⟨by decide, by decide, by decide, by decide⟩ (k_haltC1 l D ad1 cI cZ cS cA hn h1 hb e hw) (r_haltC1 l D ad2 cI cZ hn h2 hb e (by omega) (by omega))
    · by_cases h10 : x = nI 10
      · subst h10
        obtain ⟨w, hw⟩ : ∃ w, w = 10 := ⟨10, rfl⟩
        rw [← hw]
        by_cases e : S.2 3 14 w 0 = b
        · exact lx_same h1 h2 ⟨by decide, by decide, by decide, by decide⟩ (k_haltL0 l D ad1 cI cZ cS cA hn h1 hb e hw) (r_haltC0 l D ad2 cI cZ hn h2 hb e (by omega) (by omega))
        · exact lx_step ⟨by decide, by decide, by decide, by decide⟩ (k_haltL1 l D ad1 cI cZ cS cA hn h1 hb e hw) (r_haltC1 l D ad2 cI cZ hn h2 hb e (by omega) (by omega))
      · have hx2 : x < nI 8 ∨ nI 10 < x := by
          rcases lx_cl x 11 (by decide) with h | ⟨j, hj, rfl⟩
          · rcases h with h | h
            · exact Or.inl (Int32.lt_trans h (by decide))
            · exact Or.inr (Int32.lt_of_lt_of_le (by decide) h)
          · by_cases hj8 : j < 8
            · exact Or.inl (nI_lt hj8 (by omega))
            · exfalso
              rcases (show j = 8 ∨ j = 9 ∨ j = 10 by omega) with rfl | rfl | rfl
              · exact h8 (Or.inl rfl)
              · exact h8 (Or.inr rfl)
              · exact h10 rfl
        exact lx_same h1 h2 ⟨by decide, by decide, by decide, by decide⟩ (k_halt_b l D ad1 cI cZ cS cA hn h1 hx (fun z => h8 (Or.inl z)) (fun z => h8 (Or.inr z)) h10) (r_halt_b l D ad2 cI cZ hn h2 hx hx2)
  · by_cases e : S.2 3 14 w 0 = b
    · exact lx_same h1 h2 ⟨by decide, by decide, by decide, by decide⟩ (k_haltA0 l D ad1 cI cZ cS cA hn h1 hb e hw) (r_haltA0 l D ad2 cI cZ hn h2 hb e hw)
    · exact lx_step ⟨by decide, by decide, by decide, by decide⟩ (k_haltA1 l D ad1 cI cZ cS cA hn h1 hb e hw) (r_haltA1 l D ad2 cI cZ hn h2 hb e hw)
theorem lx_waiting (Q : pz_Q n q f) (h1 : fr_I n q f S M1) (h2 : gm_I n q f S M2)  : lx_P l D n q f ad1 ad2 cI cZ cS cA M1 M2 my_FB_waiting my_Mod_waiting mb_FB_waiting mb_Mod_waiting 1 1 (some .int) [] := by
  have hn := Q.2.1; have hq5 : q ≤ 5 := Nat.le_trans Q.2.2.2.1 hn; have hf5 : f ≤ 5 := Nat.le_trans Q.2.2.2.2.2.1 hn; have h60 : S.1.length ≤ 60 := h1.1.1
  exact lx_same h1 h2 ⟨by decide, by decide, by decide, by decide⟩ (k_waiting l D ad1 cI cZ cS cA hn h1) (r_waiting l D ad2 cI cZ hn h2)
theorem lx_lost (Q : pz_Q n q f) (h1 : fr_I n q f S M1) (h2 : gm_I n q f S M2)  : lx_P l D n q f ad1 ad2 cI cZ cS cA M1 M2 my_FB_lost my_Mod_lost mb_FB_lost mb_Mod_lost 1 1 (some .int) [] := by
  have hn := Q.2.1; have hq5 : q ≤ 5 := Nat.le_trans Q.2.2.2.1 hn; have hf5 : f ≤ 5 := Nat.le_trans Q.2.2.2.2.2.1 hn; have h60 : S.1.length ≤ 60 := h1.1.1
  exact lx_same h1 h2 ⟨by decide, by decide, by decide, by decide⟩ (k_lost l D ad1 cI cZ cS cA hn h1) (r_lost l D ad2 cI cZ hn h2)
theorem lx_message (Q : pz_Q n q f) (h1 : fr_I n q f S M1) (h2 : gm_I n q f S M2) {x : Int32} : lx_P l D n q f ad1 ad2 cI cZ cS cA M1 M2 my_FB_message my_Mod_message mb_FB_message mb_Mod_message 2 2 (some .int) [.int x] := by
  have hn := Q.2.1; have hq5 : q ≤ 5 := Nat.le_trans Q.2.2.2.1 hn; have hf5 : f ≤ 5 := Nat.le_trans Q.2.2.2.2.2.1 hn; have h60 : S.1.length ≤ 60 := h1.1.1
  rcases lx_cl x S.1.length (by omega) with hx | ⟨j, hj, rfl⟩
  · exact lx_same h1 h2 ⟨by decide, by decide, by decide, by decide⟩ (k_message_b l D ad1 cI cZ cS cA hn h1 hx) (r_message_b l D ad2 cI cZ hn h2 hx)
  · have hg := List.getElem?_eq_getElem hj
    exact lx_same h1 h2 ⟨by decide, by decide, by decide, by decide⟩ (k_message l D ad1 cI cZ cS cA hn h1 hg) (r_message l D ad2 cI cZ hn h2 hg)
theorem lx_value (Q : pz_Q n q f) (h1 : fr_I n q f S M1) (h2 : gm_I n q f S M2) {x : Int32} : lx_P l D n q f ad1 ad2 cI cZ cS cA M1 M2 my_FB_value my_Mod_value mb_FB_value mb_Mod_value 2 2 (some .int) [.int x] := by
  have hn := Q.2.1; have hq5 : q ≤ 5 := Nat.le_trans Q.2.2.2.1 hn; have hf5 : f ≤ 5 := Nat.le_trans Q.2.2.2.2.2.1 hn; have h60 : S.1.length ≤ 60 := h1.1.1
  rcases lx_cl x S.1.length (by omega) with hx | ⟨j, hj, rfl⟩
  · exact lx_same h1 h2 ⟨by decide, by decide, by decide, by decide⟩ (k_value_b l D ad1 cI cZ cS cA hn h1 hx) (r_value_b l D ad2 cI cZ hn h2 hx)
  · have hg := List.getElem?_eq_getElem hj
    exact lx_same h1 h2 ⟨by decide, by decide, by decide, by decide⟩ (k_value l D ad1 cI cZ cS cA hn h1 hg) (r_value l D ad2 cI cZ hn h2 hg)
theorem lx_round (Q : pz_Q n q f) (h1 : fr_I n q f S M1) (h2 : gm_I n q f S M2) {x y : Int32} : lx_P l D n q f ad1 ad2 cI cZ cS cA M1 M2 my_FB_round my_Mod_round mb_FB_round mb_Mod_round 3 3 (some .int) [.int x, .int y] := by
  have hn := Q.2.1; have hq5 : q ≤ 5 := Nat.le_trans Q.2.2.2.1 hn; have hf5 : f ≤ 5 := Nat.le_trans Q.2.2.2.2.2.1 hn; have h60 : S.1.length ≤ 60 := h1.1.1
  rcases lx_cl x n (by omega) with hx | ⟨a, ha, rfl⟩
  · exact lx_same h1 h2 ⟨by decide, by decide, by decide, by decide⟩ (k_round_b1 l D ad1 cI cZ cS cA hn h1 hx) (r_round_b1 l D ad2 cI cZ hn h2 hx)
  · rcases lx_cl y 3 (by decide) with hy | ⟨s, hs, rfl⟩
    · exact lx_same h1 h2 ⟨by decide, by decide, by decide, by decide⟩ (k_round_b2 l D ad1 cI cZ cS cA hn h1 ha hy) (r_round_b2 l D ad2 cI cZ hn h2 ha hy)
    · exact lx_same h1 h2 ⟨by decide, by decide, by decide, by decide⟩ (k_round l D ad1 cI cZ cS cA hn h1 hs ha) (r_round l D ad2 cI cZ hn h2 hs ha)
theorem lx_vote (Q : pz_Q n q f) (h1 : fr_I n q f S M1) (h2 : gm_I n q f S M2) {x y : Int32} : lx_P l D n q f ad1 ad2 cI cZ cS cA M1 M2 my_FB_vote my_Mod_vote mb_FB_vote mb_Mod_vote 3 3 (some .int) [.int x, .int y] := by
  have hn := Q.2.1; have hq5 : q ≤ 5 := Nat.le_trans Q.2.2.2.1 hn; have hf5 : f ≤ 5 := Nat.le_trans Q.2.2.2.2.2.1 hn; have h60 : S.1.length ≤ 60 := h1.1.1
  rcases lx_cl x n (by omega) with hx | ⟨a, ha, rfl⟩
  · exact lx_same h1 h2 ⟨by decide, by decide, by decide, by decide⟩ (k_vote_b1 l D ad1 cI cZ cS cA hn h1 hx) (r_vote_b1 l D ad2 cI cZ hn h2 hx)
  · rcases lx_cl y 3 (by decide) with hy | ⟨s, hs, rfl⟩
    · exact lx_same h1 h2 ⟨by decide, by decide, by decide, by decide⟩ (k_vote_b2 l D ad1 cI cZ cS cA hn h1 ha hy) (r_vote_b2 l D ad2 cI cZ hn h2 ha hy)
    · exact lx_same h1 h2 ⟨by decide, by decide, by decide, by decide⟩ (k_vote l D ad1 cI cZ cS cA hn h1 hs ha) (r_vote l D ad2 cI cZ hn h2 hs ha)
theorem lx_voteRound (Q : pz_Q n q f) (h1 : fr_I n q f S M1) (h2 : gm_I n q f S M2) {x y : Int32} : lx_P l D n q f ad1 ad2 cI cZ cS cA M1 M2 my_FB_voteRound my_Mod_voteRound mb_FB_voteRound mb_Mod_voteRound 3 3 (some .int) [.int x, .int y] := by
  have hn := Q.2.1; have hq5 : q ≤ 5 := Nat.le_trans Q.2.2.2.1 hn; have hf5 : f ≤ 5 := Nat.le_trans Q.2.2.2.2.2.1 hn; have h60 : S.1.length ≤ 60 := h1.1.1
  rcases lx_cl x n (by omega) with hx | ⟨a, ha, rfl⟩
  · exact lx_same h1 h2 ⟨by decide, by decide, by decide, by decide⟩ (k_voteRound_b1 l D ad1 cI cZ cS cA hn h1 hx) (r_voteRound_b1 l D ad2 cI cZ hn h2 hx)
  · rcases lx_cl y 3 (by decide) with hy | ⟨s, hs, rfl⟩
    · exact lx_same h1 h2 ⟨by decide, by decide, by decide, by decide⟩ (k_voteRound_b2 l D ad1 cI cZ cS cA hn h1 ha hy) (r_voteRound_b2 l D ad2 cI cZ hn h2 ha hy)
    · exact lx_same h1 h2 ⟨by decide, by decide, by decide, by decide⟩ (k_voteRound l D ad1 cI cZ cS cA hn h1 hs ha) (r_voteRound l D ad2 cI cZ hn h2 hs ha)
theorem lx_leads (Q : pz_Q n q f) (h1 : fr_I n q f S M1) (h2 : gm_I n q f S M2) {x y : Int32} : lx_P l D n q f ad1 ad2 cI cZ cS cA M1 M2 my_FB_leads my_Mod_leads mb_FB_leads mb_Mod_leads 3 3 (some .int) [.int x, .int y] := by
  have hn := Q.2.1; have hq5 : q ≤ 5 := Nat.le_trans Q.2.2.2.1 hn; have hf5 : f ≤ 5 := Nat.le_trans Q.2.2.2.2.2.1 hn; have h60 : S.1.length ≤ 60 := h1.1.1
  rcases lx_cl8 x with ⟨hx8, hx9⟩ | ⟨c, hc, rfl⟩
  · exact lx_same h1 h2 ⟨by decide, by decide, by decide, by decide⟩ (k_leads_b1 l D ad1 cI cZ cS cA hn h1 hx8 hx9) (r_leads_b1 l D ad2 cI cZ hn h2 hx8 hx9)
  · rcases lx_cl y 3 (by decide) with hy | ⟨s, hs, rfl⟩
    · exact lx_same h1 h2 ⟨by decide, by decide, by decide, by decide⟩ (k_leads_b2 l D ad1 cI cZ cS cA hn h1 hc hy) (r_leads_b2 l D ad2 cI cZ hn h2 hc hy)
    · exact lx_same h1 h2 ⟨by decide, by decide, by decide, by decide⟩ (k_leads l D ad1 cI cZ cS cA hn h1 hs hc) (r_leads l D ad2 cI cZ hn h2 hs hc)
theorem lx_phase (Q : pz_Q n q f) (h1 : fr_I n q f S M1) (h2 : gm_I n q f S M2) {x y : Int32} : lx_P l D n q f ad1 ad2 cI cZ cS cA M1 M2 my_FB_phase my_Mod_phase mb_FB_phase mb_Mod_phase 3 3 (some .int) [.int x, .int y] := by
  have hn := Q.2.1; have hq5 : q ≤ 5 := Nat.le_trans Q.2.2.2.1 hn; have hf5 : f ≤ 5 := Nat.le_trans Q.2.2.2.2.2.1 hn; have h60 : S.1.length ≤ 60 := h1.1.1
  rcases lx_cl8 x with ⟨hx8, hx9⟩ | ⟨c, hc, rfl⟩
  · exact lx_same h1 h2 ⟨by decide, by decide, by decide, by decide⟩ (k_phase_b1 l D ad1 cI cZ cS cA hn h1 hx8 hx9) (r_phase_b1 l D ad2 cI cZ hn h2 hx8 hx9)
  · rcases lx_cl y 3 (by decide) with hy | ⟨s, hs, rfl⟩
    · exact lx_same h1 h2 ⟨by decide, by decide, by decide, by decide⟩ (k_phase_b2 l D ad1 cI cZ cS cA hn h1 hc hy) (r_phase_b2 l D ad2 cI cZ hn h2 hc hy)
    · exact lx_same h1 h2 ⟨by decide, by decide, by decide, by decide⟩ (k_phase l D ad1 cI cZ cS cA hn h1 hs hc) (r_phase l D ad2 cI cZ hn h2 hs hc)
theorem lx_learned (Q : pz_Q n q f) (h1 : fr_I n q f S M1) (h2 : gm_I n q f S M2) {x : Int32} : lx_P l D n q f ad1 ad2 cI cZ cS cA M1 M2 my_FB_learned my_Mod_learned mb_FB_learned mb_Mod_learned 2 2 (some .int) [.int x] := by
  have hn := Q.2.1; have hq5 : q ≤ 5 := Nat.le_trans Q.2.2.2.1 hn; have hf5 : f ≤ 5 := Nat.le_trans Q.2.2.2.2.2.1 hn; have h60 : S.1.length ≤ 60 := h1.1.1
  rcases lx_cl x 3 (by decide) with hx | ⟨s, hs, rfl⟩
  · exact lx_same h1 h2 ⟨by decide, by decide, by decide, by decide⟩ (k_learned_b l D ad1 cI cZ cS cA hn h1 hx) (r_learned_b l D ad2 cI cZ hn h2 hx)
  · exact lx_same h1 h2 ⟨by decide, by decide, by decide, by decide⟩ (k_learned l D ad1 cI cZ cS cA hn h1 hs) (r_learned l D ad2 cI cZ hn h2 hs)
theorem lx_chosen (Q : pz_Q n q f) (h1 : fr_I n q f S M1) (h2 : gm_I n q f S M2) {x : Int32} : lx_P l D n q f ad1 ad2 cI cZ cS cA M1 M2 my_FB_chosen my_Mod_chosen mb_FB_chosen mb_Mod_chosen 2 5 (some .int) [.int x] := by
  have hn := Q.2.1; have hq5 : q ≤ 5 := Nat.le_trans Q.2.2.2.1 hn; have hf5 : f ≤ 5 := Nat.le_trans Q.2.2.2.2.2.1 hn; have h60 : S.1.length ≤ 60 := h1.1.1
  rcases lx_cl x 3 (by decide) with hx | ⟨s, hs, rfl⟩
  · exact lx_same h1 h2 ⟨by decide, by decide, by decide, by decide⟩ (k_chosen_b l D ad1 cI cZ cS cA hn h1 hx) (r_chosen_b l D ad2 cI cZ hx)
  · exact lx_same h1 h2 ⟨by decide, by decide, by decide, by decide⟩ (k_chosen l D ad1 cI cZ cS cA hn h1 hs) (r_chosen l D ad2 cI cZ hn hq5 hf5 Q h2 hs)
theorem lx_votes (Q : pz_Q n q f) (h1 : fr_I n q f S M1) (h2 : gm_I n q f S M2) {x y z : Int32} : lx_P l D n q f ad1 ad2 cI cZ cS cA M1 M2 my_FB_votes my_Mod_votes mb_FB_votes mb_Mod_votes 4 4 (some .int) [.int x, .int y, .int z] := by
  have hn := Q.2.1; have hq5 : q ≤ 5 := Nat.le_trans Q.2.2.2.1 hn; have hf5 : f ≤ 5 := Nat.le_trans Q.2.2.2.2.2.1 hn; have h60 : S.1.length ≤ 60 := h1.1.1
  rcases lx_cl x 3 (by decide) with hx | ⟨s, hs, rfl⟩
  · exact lx_same h1 h2 ⟨by decide, by decide, by decide, by decide⟩ (k_votes_b1 l D ad1 cI cZ cS cA hn h1 hx) (r_votes_b1 l D ad2 cI cZ hn h2 hx)
  · rcases lx_cl1 y 12 (by decide) with hy | ⟨r, hr1, hr2, rfl⟩
    · exact lx_same h1 h2 ⟨by decide, by decide, by decide, by decide⟩ (k_votes_b2 l D ad1 cI cZ cS cA hn h1 hs hy) (r_votes_b2 l D ad2 cI cZ hn h2 hs hy)
    · rcases lx_cl1 z 1000 (by decide) with hz | ⟨v, hv1, hv2, rfl⟩
      · exact lx_same h1 h2 ⟨by decide, by decide, by decide, by decide⟩ (k_votes_b3 l D ad1 cI cZ cS cA hn h1 hs hr1 hr2 hz) (r_votes_b3 l D ad2 cI cZ hn h2 hs hr1 hr2 hz)
      · have iV : ∀ a, a < n → S.2 s 5 r a < 2 ^ 31 := fun a ha => by
          by_cases e : S.2 s 5 r a = 0
          · omega
          · have := (((h1.1.2.1 s hs).1 a ha).2.2.1 r e).2.2
            omega
        exact lx_same h1 h2 ⟨by decide, by decide, by decide, by decide⟩ (k_votes l D ad1 cI cZ cS cA hn h1 hs hr1 hr2 hv1 hv2 iV) (r_votes l D ad2 cI cZ hn h2 hs hr1 hr2 hv1 hv2)
theorem lx_size (Q : pz_Q n q f) (h1 : fr_I n q f S M1) (h2 : gm_I n q f S M2) {x : Int32} : lx_P l D n q f ad1 ad2 cI cZ cS cA M1 M2 my_FB_size my_Mod_size mb_FB_size mb_Mod_size 2 2 (some .int) [.int x] := by
  have hn := Q.2.1; have hq5 : q ≤ 5 := Nat.le_trans Q.2.2.2.1 hn; have hf5 : f ≤ 5 := Nat.le_trans Q.2.2.2.2.2.1 hn; have h60 : S.1.length ≤ 60 := h1.1.1
  rcases lx_cl x 3 (by decide) with hx | ⟨s, hs, rfl⟩
  · have hk : x.toInt < 0 ∨ 2 < x.toInt := by
      rcases hx with h | h
      · exact Or.inl (Int32.lt_iff_toInt_lt.mp h)
      · have h3 : (nI 3).toInt ≤ x.toInt := Int32.le_iff_toInt_le.mp h
        rw [nI_toInt (by decide)] at h3
        omega
    have hne : ∀ j, j < 3 → ¬ x = nI j := fun j hj e => by
      subst e
      rw [nI_toInt (by omega)] at hk
      omega
    exact lx_same h1 h2 ⟨by decide, by decide, by decide, by decide⟩ (k_size_b l D ad1 cI cZ cS cA hn h1 hk) (r_size_b l D ad2 cI cZ hn h2 (hne 0 (by decide)) (hne 1 (by decide)) (hne 2 (by decide)))
  · rcases (show s = 0 ∨ s = 1 ∨ s = 2 by omega) with rfl | rfl | rfl
    · exact lx_same h1 h2 ⟨by decide, by decide, by decide, by decide⟩ (k_size0 l D ad1 cI cZ cS cA hn h1) (r_size0 l D ad2 cI cZ hn h2)
    · exact lx_same h1 h2 ⟨by decide, by decide, by decide, by decide⟩ (k_size1 l D ad1 cI cZ cS cA hn h1) (r_size1 l D ad2 cI cZ hn h2)
    · exact lx_same h1 h2 ⟨by decide, by decide, by decide, by decide⟩ (k_size2 l D ad1 cI cZ cS cA hn h1) (r_size2 l D ad2 cI cZ hn h2)
end LX
