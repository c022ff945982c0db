/-! The start: the state where nothing is, and that both worlds stand for it behind their constructors. -/
def st_S : pz_T := ([], fun _ _ _ _ => 0)
theorem st_sm0 (n : Nat) : pz_sm n (fun _ => 0) = 0 := by
  induction n with
  | zero => rfl
  | succ n ih => show pz_sm n (fun _ => 0) + 0 = 0; rw [ih]
theorem st_Inv {n q f : Nat} (Q : pz_Q n q f) : pz_Inv n q f st_S := by
  refine ⟨by decide, fun s hs => ?_, fun g hg => (by cases hg), fun w => Nat.zero_le 1⟩
  show pz_IV n q f (fun _ _ _ => 0)
  refine ⟨fun a ha => ⟨Nat.le_refl 0, Nat.zero_le _, fun r h => absurd rfl h, Or.inl ⟨rfl, rfl⟩⟩, fun a ha => ⟨Nat.le_refl 0, Nat.zero_le _, fun h => absurd h (Nat.lt_irrefl 0)⟩, fun r h => absurd rfl h, fun r a ha h => absurd rfl h, fun x r w h => absurd rfl h, fun c hc => ⟨Nat.zero_le _, Nat.zero_le _, Nat.zero_le _, fun h => absurd rfl h, fun a => Nat.zero_le _, fun h => (by cases h), fun h => (by cases h), fun h => (by cases h)⟩, ⟨fun r a h => ⟨rfl, rfl⟩, fun r a => Nat.zero_le _, Nat.zero_le _, Nat.zero_le _⟩, Or.inl ⟨rfl, fun r w hw => ?_⟩⟩
  have e : pz_cv (fun _ _ _ => 0) n r w = 0 := by
    unfold pz_cv
    have e2 : (fun a : Nat => if (fun (_ _ _ : Nat) => 0) 5 r a = w then 1 else 0) = fun _ => 0 := by
      funext a
      exact if_neg (fun h => hw h.symm)
    rw [e2, st_sm0]
  rw [e]
  exact pz_en_pos Q r
def st_M (n q f : Nat) : fr_M := fun k j => match k.1, j with
  | 1, 0 => nI n
  | 1, 1 => nI q
  | 1, 2 => nI f
  | 9, 0 => nI (k.2 / 2)
  | 15, 0 => nI (k.2 % 5)
  | 15, 1 => nI (k.2 / 5)
  | _, _ => 0
theorem st_fr {n q f : Nat} (Q : pz_Q n q f) : fr_I n q f st_S (st_M n q f) := by
  refine ⟨st_Inv Q, ⟨rfl, rfl, rfl⟩, ⟨rfl, rfl⟩, fun w hw => rfl, fun i g hg => (by cases hg), fun s c hs hc => ⟨?_, rfl, rfl, rfl⟩, fun s c hs hc hx => ⟨?_, fun a ha => ⟨rfl, fun h => absurd rfl h⟩⟩, fun s hs => ⟨rfl, rfl⟩, fun s r a hs hr ha => ⟨rfl, rfl⟩, fun s a hs ha => ⟨?_, ?_, rfl, rfl, rfl, rfl, rfl⟩⟩
  · show nI ((2 * s + c) / 2) = nI s
    rw [show (2 * s + c) / 2 = s by omega]
  · show (0 : Int32) = nI (pz_sm n (fun _ => 0))
    rw [st_sm0]; rfl
  · show nI ((5 * s + a) % 5) = nI a
    have := Q.2.1
    rw [show (5 * s + a) % 5 = a by omega]
  · show nI ((5 * s + a) / 5) = nI s
    have := Q.2.1
    rw [show (5 * s + a) / 5 = s by omega]
def st_N (n q f : Nat) : fr_M := fun k j => match k.1, j with
  | 0, 0 => nI n
  | 0, 1 => nI q
  | 0, 2 => nI f
  | _, _ => 0
theorem st_gm {n q f : Nat} (Q : pz_Q n q f) : gm_I n q f st_S (st_N n q f) := by
  refine ⟨st_Inv Q, ⟨rfl, rfl, rfl⟩, ⟨rfl, rfl⟩, fun w hw => rfl, fun i g hg => (by cases hg), fun k s x y hk hs hd => ?_⟩
  show st_N n q f (13 + k, 0) _ = nI 0
  unfold st_N
  rcases (show k = 0 ∨ k = 1 ∨ k = 2 ∨ k = 3 ∨ k = 4 ∨ k = 5 ∨ k = 6 ∨ k = 7 ∨ k = 8 ∨ k = 9 ∨ k = 10 ∨ k = 11 ∨ k = 12 ∨ k = 13 by omega) with rfl | rfl | rfl | rfl | rfl | rfl | rfl | rfl | rfl | rfl | rfl | rfl | rfl | rfl <;> rfl
/-- cells that can't be told apart -/
def st_eq (e e' : va_E) : Prop := ∀ (D : va_G) (cl : List vw_C) (x : Nat) (H : Heap), va_at D cl (x, e) H → va_at D cl (x, e') H
theorem st_rf {e e' : va_E} (h : e = e') : st_eq e e' := by subst h; exact fun _ _ _ _ h => h
theorem st_arr {cA : ClassId} {N : Nat} {F G : Nat → Value} (h : ∀ j, j < N → F j = G j) : arrV cA N F = arrV cA N G := by
  unfold arrV
  congr 1
  refine congrArg _ (funext fun j => h j.val j.isLt)
theorem st_in {cA : ClassId} {N : Nat} {F G : Nat → Int32} (h : ∀ j, j < N → F j = G j) : st_eq (.inl (cA, N, .inl F)) (.inl (cA, N, .inl G)) := fun D cl x H hx => by
  have e : arrV cA N (fun j => .int (F j)) = arrV cA N (fun j => .int (G j)) := st_arr (fun j hj => by rw [h j hj])
  exact (show H[x]? = some (arrV cA N (fun j => .int (F j))) from hx).trans (by rw [e]; rfl)
theorem st_rq {cA : ClassId} {N : Nat} {F G : Nat → Option Nat} (h : ∀ j, j < N → F j = G j) : st_eq (.inl (cA, N, .inr (.inr (.inr (.inr F))))) (.inl (cA, N, .inr (.inr (.inr (.inr G))))) := fun D cl x H hx => by
  have e : arrV cA N (fun j => va_rf (F j)) = arrV cA N (fun j => va_rf (G j)) := st_arr (fun j hj => by rw [h j hj])
  exact (show H[x]? = some (arrV cA N (fun j => va_rf (F j))) from hx).trans (by rw [e]; rfl)
def st_ok (E : List va_E) (off : Nat × Nat → Nat) (cf : Nat × Nat → va_E) (k : Nat × Nat) : Prop := ∃ e, E[off k]? = some e ∧ st_eq e (cf k)
theorem st_conv {D : va_G} {cl : List vw_C} {a : Nat} {E : List va_E} {H : Heap} {ids : List (Nat × Nat)} {off : Nat × Nat → Nat} {cf : Nat × Nat → va_E} (h : ∀ k ∈ ids, st_ok E off cf k) (hP : xn_P D cl a E H) : va_P D cl (xw_ws ids (fun k => a + off k) cf) H := fun q0 x hx => by
  obtain ⟨k, hk, rfl⟩ := xw_of hx
  obtain ⟨e, h1, h2⟩ := h k (List.mem_of_getElem? hk)
  exact h2 _ _ _ _ (hP.2 _ _ h1)
theorem st_dis {a : Nat} {ids : List (Nat × Nat)} {off : Nat × Nat → Nat} {cf : Nat × Nat → va_E} (hn : (ids.map off).Nodup) : va_D (xw_A ids (fun k => a + off k)) (xw_ws ids (fun k => a + off k) cf) := by
  refine ⟨fun i j x y hi hj hxy => ?_, fun i x hi => ?_⟩
  · obtain ⟨k, hk, rfl⟩ := xw_of hi
    obtain ⟨k', hk', rfl⟩ := xw_of hj
    have e : off k = off k' := Nat.add_left_cancel hxy
    have h2 : (ids.map off)[i]? = (ids.map off)[j]? := by
      rw [List.getElem?_map, List.getElem?_map, hk, hk']
      exact congrArg some e
    exact (List.getElem?_inj (by rw [List.length_map]; exact (List.getElem?_eq_some_iff.mp hk).1) hn).mp h2
  · obtain ⟨k, hk, rfl⟩ := xw_of hi
    exact ⟨k, List.mem_of_getElem? hk, rfl⟩
def st_off (n : Nat) : Nat × Nat → Nat := fun k => match k.1 with
  | 0 => 0
  | 1 => 1
  | 2 => 2
  | 3 => 6
  | 4 => 5
  | 5 => 3
  | 6 => 4
  | 7 => 7 + k.2 * (14 + n)
  | 8 => 7 + k.2 * (14 + n) + 13
  | 9 => 7 + k.2 / 2 * (14 + n) + (5 + 4 * (k.2 % 2))
  | 10 => 7 + k.2 / 2 * (14 + n) + (6 + 4 * (k.2 % 2))
  | 11 => 7 + k.2 / 2 * (14 + n) + (7 + 4 * (k.2 % 2))
  | 12 => 7 + k.2 / 2 * (14 + n) + (8 + 4 * (k.2 % 2))
  | 13 => 7 + k.2 / 2 * (14 + n) + (1 + 2 * (k.2 % 2))
  | 14 => 7 + k.2 / 2 * (14 + n) + (2 + 2 * (k.2 % 2))
  | _ => 7 + k.2 / 5 * (14 + n) + (14 + k.2 % 5)
abbrev st_ad (n a : Nat) : Nat × Nat → Nat := fun k => a + st_off n k
def st_of2 : Nat × Nat → Nat := fun k => match k.1 with
  | 0 => 0
  | 3 => 1
  | x => x - 4
abbrev st_ad2 (a : Nat) : Nat × Nat → Nat := fun k => a + st_of2 k
theorem st_ids3 : fb_ids 3 = [(0, 0), (1, 0), (2, 0), (3, 0), (4, 0), (5, 0), (6, 0), (7, 0), (8, 0), (7, 1), (8, 1), (7, 2), (8, 2), (9, 0), (10, 0), (11, 0), (12, 0), (13, 0), (14, 0), (9, 1), (10, 1), (11, 1), (12, 1), (13, 1), (14, 1), (9, 2), (10, 2), (11, 2), (12, 2), (13, 2), (14, 2), (9, 3), (10, 3), (11, 3), (12, 3), (13, 3), (14, 3), (9, 4), (10, 4), (11, 4), (12, 4), (13, 4), (14, 4), (9, 5), (10, 5), (11, 5), (12, 5), (13, 5), (14, 5), (15, 0), (15, 1), (15, 2), (15, 5), (15, 6), (15, 7), (15, 10), (15, 11), (15, 12)] := by decide +kernel
theorem st_nd3 : ((fb_ids 3).map (st_off 3)).Nodup := by decide +kernel
theorem st_lt3 : ∀ k ∈ fb_ids 3, st_off 3 k < 7 + 3 * (14 + 3) := by decide +kernel
theorem st_k3_0_0 (cI cZ cS cA : ClassId) (q f a : Nat) : st_ok (xe_FB cI cZ cS cA 3 q f a) (st_off 3) (xw_M (fb_k 3 (st_ad 3 a) cI cZ cS cA) (st_M 3 q f)) (0, 0) := ⟨_, rfl, st_rf rfl⟩
theorem st_k3_1_0 (cI cZ cS cA : ClassId) (q f a : Nat) : st_ok (xe_FB cI cZ cS cA 3 q f a) (st_off 3) (xw_M (fb_k 3 (st_ad 3 a) cI cZ cS cA) (st_M 3 q f)) (1, 0) := ⟨_, rfl, st_rf rfl⟩
theorem st_k3_2_0 (cI cZ cS cA : ClassId) (q f a : Nat) : st_ok (xe_FB cI cZ cS cA 3 q f a) (st_off 3) (xw_M (fb_k 3 (st_ad 3 a) cI cZ cS cA) (st_M 3 q f)) (2, 0) := ⟨_, rfl, st_rf rfl⟩
theorem st_k3_3_0 (cI cZ cS cA : ClassId) (q f a : Nat) : st_ok (xe_FB cI cZ cS cA 3 q f a) (st_off 3) (xw_M (fb_k 3 (st_ad 3 a) cI cZ cS cA) (st_M 3 q f)) (3, 0) := ⟨_, rfl, st_rq (fun j hj => by rcases (show j = 0 ∨ j = 1 ∨ j = 2 by omega) with rfl | rfl | rfl <;> rfl)⟩
theorem st_k3_4_0 (cI cZ cS cA : ClassId) (q f a : Nat) : st_ok (xe_FB cI cZ cS cA 3 q f a) (st_off 3) (xw_M (fb_k 3 (st_ad 3 a) cI cZ cS cA) (st_M 3 q f)) (4, 0) := ⟨_, rfl, st_in (fun _ _ => rfl)⟩
theorem st_k3_5_0 (cI cZ cS cA : ClassId) (q f a : Nat) : st_ok (xe_FB cI cZ cS cA 3 q f a) (st_off 3) (xw_M (fb_k 3 (st_ad 3 a) cI cZ cS cA) (st_M 3 q f)) (5, 0) := ⟨_, rfl, st_in (fun _ _ => rfl)⟩
theorem st_k3_6_0 (cI cZ cS cA : ClassId) (q f a : Nat) : st_ok (xe_FB cI cZ cS cA 3 q f a) (st_off 3) (xw_M (fb_k 3 (st_ad 3 a) cI cZ cS cA) (st_M 3 q f)) (6, 0) := ⟨_, rfl, st_rf rfl⟩
theorem st_k3_7_0 (cI cZ cS cA : ClassId) (q f a : Nat) : st_ok (xe_FB cI cZ cS cA 3 q f a) (st_off 3) (xw_M (fb_k 3 (st_ad 3 a) cI cZ cS cA) (st_M 3 q f)) (7, 0) := ⟨_, rfl, st_rf rfl⟩
theorem st_k3_8_0 (cI cZ cS cA : ClassId) (q f a : Nat) : st_ok (xe_FB cI cZ cS cA 3 q f a) (st_off 3) (xw_M (fb_k 3 (st_ad 3 a) cI cZ cS cA) (st_M 3 q f)) (8, 0) := ⟨_, rfl, st_rq (fun j hj => by rcases (show j = 0 ∨ j = 1 ∨ j = 2 by omega) with rfl | rfl | rfl <;> rfl)⟩
theorem st_k3_7_1 (cI cZ cS cA : ClassId) (q f a : Nat) : st_ok (xe_FB cI cZ cS cA 3 q f a) (st_off 3) (xw_M (fb_k 3 (st_ad 3 a) cI cZ cS cA) (st_M 3 q f)) (7, 1) := ⟨_, rfl, st_rf rfl⟩
theorem st_k3_8_1 (cI cZ cS cA : ClassId) (q f a : Nat) : st_ok (xe_FB cI cZ cS cA 3 q f a) (st_off 3) (xw_M (fb_k 3 (st_ad 3 a) cI cZ cS cA) (st_M 3 q f)) (8, 1) := ⟨_, rfl, st_rq (fun j hj => by rcases (show j = 0 ∨ j = 1 ∨ j = 2 by omega) with rfl | rfl | rfl <;> rfl)⟩
theorem st_k3_7_2 (cI cZ cS cA : ClassId) (q f a : Nat) : st_ok (xe_FB cI cZ cS cA 3 q f a) (st_off 3) (xw_M (fb_k 3 (st_ad 3 a) cI cZ cS cA) (st_M 3 q f)) (7, 2) := ⟨_, rfl, st_rf rfl⟩
theorem st_k3_8_2 (cI cZ cS cA : ClassId) (q f a : Nat) : st_ok (xe_FB cI cZ cS cA 3 q f a) (st_off 3) (xw_M (fb_k 3 (st_ad 3 a) cI cZ cS cA) (st_M 3 q f)) (8, 2) := ⟨_, rfl, st_rq (fun j hj => by rcases (show j = 0 ∨ j = 1 ∨ j = 2 by omega) with rfl | rfl | rfl <;> rfl)⟩
theorem st_k3_9_0 (cI cZ cS cA : ClassId) (q f a : Nat) : st_ok (xe_FB cI cZ cS cA 3 q f a) (st_off 3) (xw_M (fb_k 3 (st_ad 3 a) cI cZ cS cA) (st_M 3 q f)) (9, 0) := ⟨_, rfl, st_rf rfl⟩
theorem st_k3_10_0 (cI cZ cS cA : ClassId) (q f a : Nat) : st_ok (xe_FB cI cZ cS cA 3 q f a) (st_off 3) (xw_M (fb_k 3 (st_ad 3 a) cI cZ cS cA) (st_M 3 q f)) (10, 0) := ⟨_, rfl, st_in (fun _ _ => rfl)⟩
theorem st_k3_11_0 (cI cZ cS cA : ClassId) (q f a : Nat) : st_ok (xe_FB cI cZ cS cA 3 q f a) (st_off 3) (xw_M (fb_k 3 (st_ad 3 a) cI cZ cS cA) (st_M 3 q f)) (11, 0) := ⟨_, rfl, st_in (fun _ _ => rfl)⟩
theorem st_k3_12_0 (cI cZ cS cA : ClassId) (q f a : Nat) : st_ok (xe_FB cI cZ cS cA 3 q f a) (st_off 3) (xw_M (fb_k 3 (st_ad 3 a) cI cZ cS cA) (st_M 3 q f)) (12, 0) := ⟨_, rfl, st_in (fun _ _ => rfl)⟩
theorem st_k3_13_0 (cI cZ cS cA : ClassId) (q f a : Nat) : st_ok (xe_FB cI cZ cS cA 3 q f a) (st_off 3) (xw_M (fb_k 3 (st_ad 3 a) cI cZ cS cA) (st_M 3 q f)) (13, 0) := ⟨_, rfl, st_rf rfl⟩
theorem st_k3_14_0 (cI cZ cS cA : ClassId) (q f a : Nat) : st_ok (xe_FB cI cZ cS cA 3 q f a) (st_off 3) (xw_M (fb_k 3 (st_ad 3 a) cI cZ cS cA) (st_M 3 q f)) (14, 0) := ⟨_, rfl, st_in (fun _ _ => rfl)⟩
theorem st_k3_9_1 (cI cZ cS cA : ClassId) (q f a : Nat) : st_ok (xe_FB cI cZ cS cA 3 q f a) (st_off 3) (xw_M (fb_k 3 (st_ad 3 a) cI cZ cS cA) (st_M 3 q f)) (9, 1) := ⟨_, rfl, st_rf rfl⟩
theorem st_k3_10_1 (cI cZ cS cA : ClassId) (q f a : Nat) : st_ok (xe_FB cI cZ cS cA 3 q f a) (st_off 3) (xw_M (fb_k 3 (st_ad 3 a) cI cZ cS cA) (st_M 3 q f)) (10, 1) := ⟨_, rfl, st_in (fun _ _ => rfl)⟩
theorem st_k3_11_1 (cI cZ cS cA : ClassId) (q f a : Nat) : st_ok (xe_FB cI cZ cS cA 3 q f a) (st_off 3) (xw_M (fb_k 3 (st_ad 3 a) cI cZ cS cA) (st_M 3 q f)) (11, 1) := ⟨_, rfl, st_in (fun _ _ => rfl)⟩
theorem st_k3_12_1 (cI cZ cS cA : ClassId) (q f a : Nat) : st_ok (xe_FB cI cZ cS cA 3 q f a) (st_off 3) (xw_M (fb_k 3 (st_ad 3 a) cI cZ cS cA) (st_M 3 q f)) (12, 1) := ⟨_, rfl, st_in (fun _ _ => rfl)⟩
theorem st_k3_13_1 (cI cZ cS cA : ClassId) (q f a : Nat) : st_ok (xe_FB cI cZ cS cA 3 q f a) (st_off 3) (xw_M (fb_k 3 (st_ad 3 a) cI cZ cS cA) (st_M 3 q f)) (13, 1) := ⟨_, rfl, st_rf rfl⟩
theorem st_k3_14_1 (cI cZ cS cA : ClassId) (q f a : Nat) : st_ok (xe_FB cI cZ cS cA 3 q f a) (st_off 3) (xw_M (fb_k 3 (st_ad 3 a) cI cZ cS cA) (st_M 3 q f)) (14, 1) := ⟨_, rfl, st_in (fun _ _ => rfl)⟩
theorem st_k3_9_2 (cI cZ cS cA : ClassId) (q f a : Nat) : st_ok (xe_FB cI cZ cS cA 3 q f a) (st_off 3) (xw_M (fb_k 3 (st_ad 3 a) cI cZ cS cA) (st_M 3 q f)) (9, 2) := ⟨_, rfl, st_rf rfl⟩
theorem st_k3_10_2 (cI cZ cS cA : ClassId) (q f a : Nat) : st_ok (xe_FB cI cZ cS cA 3 q f a) (st_off 3) (xw_M (fb_k 3 (st_ad 3 a) cI cZ cS cA) (st_M 3 q f)) (10, 2) := ⟨_, rfl, st_in (fun _ _ => rfl)⟩
theorem st_k3_11_2 (cI cZ cS cA : ClassId) (q f a : Nat) : st_ok (xe_FB cI cZ cS cA 3 q f a) (st_off 3) (xw_M (fb_k 3 (st_ad 3 a) cI cZ cS cA) (st_M 3 q f)) (11, 2) := ⟨_, rfl, st_in (fun _ _ => rfl)⟩
theorem st_k3_12_2 (cI cZ cS cA : ClassId) (q f a : Nat) : st_ok (xe_FB cI cZ cS cA 3 q f a) (st_off 3) (xw_M (fb_k 3 (st_ad 3 a) cI cZ cS cA) (st_M 3 q f)) (12, 2) := ⟨_, rfl, st_in (fun _ _ => rfl)⟩
theorem st_k3_13_2 (cI cZ cS cA : ClassId) (q f a : Nat) : st_ok (xe_FB cI cZ cS cA 3 q f a) (st_off 3) (xw_M (fb_k 3 (st_ad 3 a) cI cZ cS cA) (st_M 3 q f)) (13, 2) := ⟨_, rfl, st_rf rfl⟩
theorem st_k3_14_2 (cI cZ cS cA : ClassId) (q f a : Nat) : st_ok (xe_FB cI cZ cS cA 3 q f a) (st_off 3) (xw_M (fb_k 3 (st_ad 3 a) cI cZ cS cA) (st_M 3 q f)) (14, 2) := ⟨_, rfl, st_in (fun _ _ => rfl)⟩
theorem st_k3_9_3 (cI cZ cS cA : ClassId) (q f a : Nat) : st_ok (xe_FB cI cZ cS cA 3 q f a) (st_off 3) (xw_M (fb_k 3 (st_ad 3 a) cI cZ cS cA) (st_M 3 q f)) (9, 3) := ⟨_, rfl, st_rf rfl⟩
theorem st_k3_10_3 (cI cZ cS cA : ClassId) (q f a : Nat) : st_ok (xe_FB cI cZ cS cA 3 q f a) (st_off 3) (xw_M (fb_k 3 (st_ad 3 a) cI cZ cS cA) (st_M 3 q f)) (10, 3) := ⟨_, rfl, st_in (fun _ _ => rfl)⟩
theorem st_k3_11_3 (cI cZ cS cA : ClassId) (q f a : Nat) : st_ok (xe_FB cI cZ cS cA 3 q f a) (st_off 3) (xw_M (fb_k 3 (st_ad 3 a) cI cZ cS cA) (st_M 3 q f)) (11, 3) := ⟨_, rfl, st_in (fun _ _ => rfl)⟩
theorem st_k3_12_3 (cI cZ cS cA : ClassId) (q f a : Nat) : st_ok (xe_FB cI cZ cS cA 3 q f a) (st_off 3) (xw_M (fb_k 3 (st_ad 3 a) cI cZ cS cA) (st_M 3 q f)) (12, 3) := ⟨_, rfl, st_in (fun _ _ => rfl)⟩
theorem st_k3_13_3 (cI cZ cS cA : ClassId) (q f a : Nat) : st_ok (xe_FB cI cZ cS cA 3 q f a) (st_off 3) (xw_M (fb_k 3 (st_ad 3 a) cI cZ cS cA) (st_M 3 q f)) (13, 3) := ⟨_, rfl, st_rf rfl⟩
theorem st_k3_14_3 (cI cZ cS cA : ClassId) (q f a : Nat) : st_ok (xe_FB cI cZ cS cA 3 q f a) (st_off 3) (xw_M (fb_k 3 (st_ad 3 a) cI cZ cS cA) (st_M 3 q f)) (14, 3) := ⟨_, rfl, st_in (fun _ _ => rfl)⟩
theorem st_k3_9_4 (cI cZ cS cA : ClassId) (q f a : Nat) : st_ok (xe_FB cI cZ cS cA 3 q f a) (st_off 3) (xw_M (fb_k 3 (st_ad 3 a) cI cZ cS cA) (st_M 3 q f)) (9, 4) := ⟨_, rfl, st_rf rfl⟩
theorem st_k3_10_4 (cI cZ cS cA : ClassId) (q f a : Nat) : st_ok (xe_FB cI cZ cS cA 3 q f a) (st_off 3) (xw_M (fb_k 3 (st_ad 3 a) cI cZ cS cA) (st_M 3 q f)) (10, 4) := ⟨_, rfl, st_in (fun _ _ => rfl)⟩
theorem st_k3_11_4 (cI cZ cS cA : ClassId) (q f a : Nat) : st_ok (xe_FB cI cZ cS cA 3 q f a) (st_off 3) (xw_M (fb_k 3 (st_ad 3 a) cI cZ cS cA) (st_M 3 q f)) (11, 4) := ⟨_, rfl, st_in (fun _ _ => rfl)⟩
theorem st_k3_12_4 (cI cZ cS cA : ClassId) (q f a : Nat) : st_ok (xe_FB cI cZ cS cA 3 q f a) (st_off 3) (xw_M (fb_k 3 (st_ad 3 a) cI cZ cS cA) (st_M 3 q f)) (12, 4) := ⟨_, rfl, st_in (fun _ _ => rfl)⟩
theorem st_k3_13_4 (cI cZ cS cA : ClassId) (q f a : Nat) : st_ok (xe_FB cI cZ cS cA 3 q f a) (st_off 3) (xw_M (fb_k 3 (st_ad 3 a) cI cZ cS cA) (st_M 3 q f)) (13, 4) := ⟨_, rfl, st_rf rfl⟩
theorem st_k3_14_4 (cI cZ cS cA : ClassId) (q f a : Nat) : st_ok (xe_FB cI cZ cS cA 3 q f a) (st_off 3) (xw_M (fb_k 3 (st_ad 3 a) cI cZ cS cA) (st_M 3 q f)) (14, 4) := ⟨_, rfl, st_in (fun _ _ => rfl)⟩
theorem st_k3_9_5 (cI cZ cS cA : ClassId) (q f a : Nat) : st_ok (xe_FB cI cZ cS cA 3 q f a) (st_off 3) (xw_M (fb_k 3 (st_ad 3 a) cI cZ cS cA) (st_M 3 q f)) (9, 5) := ⟨_, rfl, st_rf rfl⟩
theorem st_k3_10_5 (cI cZ cS cA : ClassId) (q f a : Nat) : st_ok (xe_FB cI cZ cS cA 3 q f a) (st_off 3) (xw_M (fb_k 3 (st_ad 3 a) cI cZ cS cA) (st_M 3 q f)) (10, 5) := ⟨_, rfl, st_in (fun _ _ => rfl)⟩
theorem st_k3_11_5 (cI cZ cS cA : ClassId) (q f a : Nat) : st_ok (xe_FB cI cZ cS cA 3 q f a) (st_off 3) (xw_M (fb_k 3 (st_ad 3 a) cI cZ cS cA) (st_M 3 q f)) (11, 5) := ⟨_, rfl, st_in (fun _ _ => rfl)⟩
theorem st_k3_12_5 (cI cZ cS cA : ClassId) (q f a : Nat) : st_ok (xe_FB cI cZ cS cA 3 q f a) (st_off 3) (xw_M (fb_k 3 (st_ad 3 a) cI cZ cS cA) (st_M 3 q f)) (12, 5) := ⟨_, rfl, st_in (fun _ _ => rfl)⟩
theorem st_k3_13_5 (cI cZ cS cA : ClassId) (q f a : Nat) : st_ok (xe_FB cI cZ cS cA 3 q f a) (st_off 3) (xw_M (fb_k 3 (st_ad 3 a) cI cZ cS cA) (st_M 3 q f)) (13, 5) := ⟨_, rfl, st_rf rfl⟩
theorem st_k3_14_5 (cI cZ cS cA : ClassId) (q f a : Nat) : st_ok (xe_FB cI cZ cS cA 3 q f a) (st_off 3) (xw_M (fb_k 3 (st_ad 3 a) cI cZ cS cA) (st_M 3 q f)) (14, 5) := ⟨_, rfl, st_in (fun _ _ => rfl)⟩
theorem st_k3_15_0 (cI cZ cS cA : ClassId) (q f a : Nat) : st_ok (xe_FB cI cZ cS cA 3 q f a) (st_off 3) (xw_M (fb_k 3 (st_ad 3 a) cI cZ cS cA) (st_M 3 q f)) (15, 0) := ⟨_, rfl, st_rf rfl⟩
theorem st_k3_15_1 (cI cZ cS cA : ClassId) (q f a : Nat) : st_ok (xe_FB cI cZ cS cA 3 q f a) (st_off 3) (xw_M (fb_k 3 (st_ad 3 a) cI cZ cS cA) (st_M 3 q f)) (15, 1) := ⟨_, rfl, st_rf rfl⟩
theorem st_k3_15_2 (cI cZ cS cA : ClassId) (q f a : Nat) : st_ok (xe_FB cI cZ cS cA 3 q f a) (st_off 3) (xw_M (fb_k 3 (st_ad 3 a) cI cZ cS cA) (st_M 3 q f)) (15, 2) := ⟨_, rfl, st_rf rfl⟩
theorem st_k3_15_5 (cI cZ cS cA : ClassId) (q f a : Nat) : st_ok (xe_FB cI cZ cS cA 3 q f a) (st_off 3) (xw_M (fb_k 3 (st_ad 3 a) cI cZ cS cA) (st_M 3 q f)) (15, 5) := ⟨_, rfl, st_rf rfl⟩
theorem st_k3_15_6 (cI cZ cS cA : ClassId) (q f a : Nat) : st_ok (xe_FB cI cZ cS cA 3 q f a) (st_off 3) (xw_M (fb_k 3 (st_ad 3 a) cI cZ cS cA) (st_M 3 q f)) (15, 6) := ⟨_, rfl, st_rf rfl⟩
theorem st_k3_15_7 (cI cZ cS cA : ClassId) (q f a : Nat) : st_ok (xe_FB cI cZ cS cA 3 q f a) (st_off 3) (xw_M (fb_k 3 (st_ad 3 a) cI cZ cS cA) (st_M 3 q f)) (15, 7) := ⟨_, rfl, st_rf rfl⟩
theorem st_k3_15_10 (cI cZ cS cA : ClassId) (q f a : Nat) : st_ok (xe_FB cI cZ cS cA 3 q f a) (st_off 3) (xw_M (fb_k 3 (st_ad 3 a) cI cZ cS cA) (st_M 3 q f)) (15, 10) := ⟨_, rfl, st_rf rfl⟩
theorem st_k3_15_11 (cI cZ cS cA : ClassId) (q f a : Nat) : st_ok (xe_FB cI cZ cS cA 3 q f a) (st_off 3) (xw_M (fb_k 3 (st_ad 3 a) cI cZ cS cA) (st_M 3 q f)) (15, 11) := ⟨_, rfl, st_rf rfl⟩
theorem st_k3_15_12 (cI cZ cS cA : ClassId) (q f a : Nat) : st_ok (xe_FB cI cZ cS cA 3 q f a) (st_off 3) (xw_M (fb_k 3 (st_ad 3 a) cI cZ cS cA) (st_M 3 q f)) (15, 12) := ⟨_, rfl, st_rf rfl⟩
theorem st_c3 (cI cZ cS cA : ClassId) (q f a : Nat) : ∀ k ∈ fb_ids 3, st_ok (xe_FB cI cZ cS cA 3 q f a) (st_off 3) (xw_M (fb_k 3 (st_ad 3 a) cI cZ cS cA) (st_M 3 q f)) k := by
  rw [st_ids3]
  exact (List.forall_mem_cons.mpr ⟨st_k3_0_0 cI cZ cS cA q f a, (List.forall_mem_cons.mpr ⟨st_k3_1_0 cI cZ cS cA q f a, (List.forall_mem_cons.mpr ⟨st_k3_2_0 cI cZ cS cA q f a, (List.forall_mem_cons.mpr ⟨st_k3_3_0 cI cZ cS cA q f a, (List.forall_mem_cons.mpr ⟨st_k3_4_0 cI cZ cS cA q f a, (List.forall_mem_cons.mpr ⟨st_k3_5_0 cI cZ cS cA q f a, (List.forall_mem_cons.mpr ⟨st_k3_6_0 cI cZ cS cA q f a, (List.forall_mem_cons.mpr ⟨st_k3_7_0 cI cZ cS cA q f a, (List.forall_mem_cons.mpr ⟨st_k3_8_0 cI cZ cS cA q f a, (List.forall_mem_cons.mpr ⟨st_k3_7_1 cI cZ cS cA q f a, (List.forall_mem_cons.mpr ⟨st_k3_8_1 cI cZ cS cA q f a, (List.forall_mem_cons.mpr ⟨st_k3_7_2 cI cZ cS cA q f a, (List.forall_mem_cons.mpr ⟨st_k3_8_2 cI cZ cS cA q f a, (List.forall_mem_cons.mpr ⟨st_k3_9_0 cI cZ cS cA q f a, (List.forall_mem_cons.mpr ⟨st_k3_10_0 cI cZ cS cA q f a, (List.forall_mem_cons.mpr ⟨st_k3_11_0 cI cZ cS cA q f a, (List.forall_mem_cons.mpr ⟨st_k3_12_0 cI cZ cS cA q f a, (List.forall_mem_cons.mpr ⟨st_k3_13_0 cI cZ cS cA q f a, (List.forall_mem_cons.mpr ⟨st_k3_14_0 cI cZ cS cA q f a, (List.forall_mem_cons.mpr ⟨st_k3_9_1 cI cZ cS cA q f a, (List.forall_mem_cons.mpr ⟨st_k3_10_1 cI cZ cS cA q f a, (List.forall_mem_cons.mpr ⟨st_k3_11_1 cI cZ cS cA q f a, (List.forall_mem_cons.mpr ⟨st_k3_12_1 cI cZ cS cA q f a, (List.forall_mem_cons.mpr ⟨st_k3_13_1 cI cZ cS cA q f a, (List.forall_mem_cons.mpr ⟨st_k3_14_1 cI cZ cS cA q f a, (List.forall_mem_cons.mpr ⟨st_k3_9_2 cI cZ cS cA q f a, (List.forall_mem_cons.mpr ⟨st_k3_10_2 cI cZ cS cA q f a, (List.forall_mem_cons.mpr ⟨st_k3_11_2 cI cZ cS cA q f a, (List.forall_mem_cons.mpr ⟨st_k3_12_2 cI cZ cS cA q f a, (List.forall_mem_cons.mpr ⟨st_k3_13_2 cI cZ cS cA q f a, (List.forall_mem_cons.mpr ⟨st_k3_14_2 cI cZ cS cA q f a, (List.forall_mem_cons.mpr ⟨st_k3_9_3 cI cZ cS cA q f a, (List.forall_mem_cons.mpr ⟨st_k3_10_3 cI cZ cS cA q f a, (List.forall_mem_cons.mpr ⟨st_k3_11_3 cI cZ cS cA q f a, (List.forall_mem_cons.mpr ⟨st_k3_12_3 cI cZ cS cA q f a, (List.forall_mem_cons.mpr ⟨st_k3_13_3 cI cZ cS cA q f a, (List.forall_mem_cons.mpr ⟨st_k3_14_3 cI cZ cS cA q f a, (List.forall_mem_cons.mpr ⟨st_k3_9_4 cI cZ cS cA q f a, (List.forall_mem_cons.mpr ⟨st_k3_10_4 cI cZ cS cA q f a, (List.forall_mem_cons.mpr ⟨st_k3_11_4 cI cZ cS cA q f a, (List.forall_mem_cons.mpr ⟨st_k3_12_4 cI cZ cS cA q f a, (List.forall_mem_cons.mpr ⟨st_k3_13_4 cI cZ cS cA q f a, (List.forall_mem_cons.mpr ⟨st_k3_14_4 cI cZ cS cA q f a, (List.forall_mem_cons.mpr ⟨st_k3_9_5 cI cZ cS cA q f a, (List.forall_mem_cons.mpr ⟨st_k3_10_5 cI cZ cS cA q f a, (List.forall_mem_cons.mpr ⟨st_k3_11_5 cI cZ cS cA q f a, (List.forall_mem_cons.mpr ⟨st_k3_12_5 cI cZ cS cA q f a, (List.forall_mem_cons.mpr ⟨st_k3_13_5 cI cZ cS cA q f a, (List.forall_mem_cons.mpr ⟨st_k3_14_5 cI cZ cS cA q f a, (List.forall_mem_cons.mpr ⟨st_k3_15_0 cI cZ cS cA q f a, (List.forall_mem_cons.mpr ⟨st_k3_15_1 cI cZ cS cA q f a, (List.forall_mem_cons.mpr ⟨st_k3_15_2 cI cZ cS cA q f a, (List.forall_mem_cons.mpr ⟨st_k3_15_5 cI cZ cS cA q f a, (List.forall_mem_cons.mpr ⟨st_k3_15_6 cI cZ cS cA q f a, (List.forall_mem_cons.mpr ⟨st_k3_15_7 cI cZ cS cA q f a, (List.forall_mem_cons.mpr ⟨st_k3_15_10 cI cZ cS cA q f a, (List.forall_mem_cons.mpr ⟨st_k3_15_11 cI cZ cS cA q f a, (List.forall_mem_cons.mpr ⟨st_k3_15_12 cI cZ cS cA q f a, (fun _ h => absurd h List.not_mem_nil)⟩)⟩)⟩)⟩)⟩)⟩)⟩)⟩)⟩)⟩)⟩)⟩)⟩)⟩)⟩)⟩)⟩)⟩)⟩)⟩)⟩)⟩)⟩)⟩)⟩)⟩)⟩)⟩)⟩)⟩)⟩)⟩)⟩)⟩)⟩)⟩)⟩)⟩)⟩)⟩)⟩)⟩)⟩)⟩)⟩)⟩)⟩)⟩)⟩)⟩)⟩)⟩)⟩)⟩)⟩)⟩)⟩)⟩)
theorem st_ids4 : fb_ids 4 = [(0, 0), (1, 0), (2, 0), (3, 0), (4, 0), (5, 0), (6, 0), (7, 0), (8, 0), (7, 1), (8, 1), (7, 2), (8, 2), (9, 0), (10, 0), (11, 0), (12, 0), (13, 0), (14, 0), (9, 1), (10, 1), (11, 1), (12, 1), (13, 1), (14, 1), (9, 2), (10, 2), (11, 2), (12, 2), (13, 2), (14, 2), (9, 3), (10, 3), (11, 3), (12, 3), (13, 3), (14, 3), (9, 4), (10, 4), (11, 4), (12, 4), (13, 4), (14, 4), (9, 5), (10, 5), (11, 5), (12, 5), (13, 5), (14, 5), (15, 0), (15, 1), (15, 2), (15, 3), (15, 5), (15, 6), (15, 7), (15, 8), (15, 10), (15, 11), (15, 12), (15, 13)] := by decide +kernel
theorem st_nd4 : ((fb_ids 4).map (st_off 4)).Nodup := by decide +kernel
theorem st_lt4 : ∀ k ∈ fb_ids 4, st_off 4 k < 7 + 3 * (14 + 4) := by decide +kernel
theorem st_k4_0_0 (cI cZ cS cA : ClassId) (q f a : Nat) : st_ok (xe_FB cI cZ cS cA 4 q f a) (st_off 4) (xw_M (fb_k 4 (st_ad 4 a) cI cZ cS cA) (st_M 4 q f)) (0, 0) := ⟨_, rfl, st_rf rfl⟩
theorem st_k4_1_0 (cI cZ cS cA : ClassId) (q f a : Nat) : st_ok (xe_FB cI cZ cS cA 4 q f a) (st_off 4) (xw_M (fb_k 4 (st_ad 4 a) cI cZ cS cA) (st_M 4 q f)) (1, 0) := ⟨_, rfl, st_rf rfl⟩
theorem st_k4_2_0 (cI cZ cS cA : ClassId) (q f a : Nat) : st_ok (xe_FB cI cZ cS cA 4 q f a) (st_off 4) (xw_M (fb_k 4 (st_ad 4 a) cI cZ cS cA) (st_M 4 q f)) (2, 0) := ⟨_, rfl, st_rf rfl⟩
theorem st_k4_3_0 (cI cZ cS cA : ClassId) (q f a : Nat) : st_ok (xe_FB cI cZ cS cA 4 q f a) (st_off 4) (xw_M (fb_k 4 (st_ad 4 a) cI cZ cS cA) (st_M 4 q f)) (3, 0) := ⟨_, rfl, st_rq (fun j hj => by rcases (show j = 0 ∨ j = 1 ∨ j = 2 by omega) with rfl | rfl | rfl <;> rfl)⟩
theorem st_k4_4_0 (cI cZ cS cA : ClassId) (q f a : Nat) : st_ok (xe_FB cI cZ cS cA 4 q f a) (st_off 4) (xw_M (fb_k 4 (st_ad 4 a) cI cZ cS cA) (st_M 4 q f)) (4, 0) := ⟨_, rfl, st_in (fun _ _ => rfl)⟩
theorem st_k4_5_0 (cI cZ cS cA : ClassId) (q f a : Nat) : st_ok (xe_FB cI cZ cS cA 4 q f a) (st_off 4) (xw_M (fb_k 4 (st_ad 4 a) cI cZ cS cA) (st_M 4 q f)) (5, 0) := ⟨_, rfl, st_in (fun _ _ => rfl)⟩
theorem st_k4_6_0 (cI cZ cS cA : ClassId) (q f a : Nat) : st_ok (xe_FB cI cZ cS cA 4 q f a) (st_off 4) (xw_M (fb_k 4 (st_ad 4 a) cI cZ cS cA) (st_M 4 q f)) (6, 0) := ⟨_, rfl, st_rf rfl⟩
theorem st_k4_7_0 (cI cZ cS cA : ClassId) (q f a : Nat) : st_ok (xe_FB cI cZ cS cA 4 q f a) (st_off 4) (xw_M (fb_k 4 (st_ad 4 a) cI cZ cS cA) (st_M 4 q f)) (7, 0) := ⟨_, rfl, st_rf rfl⟩
theorem st_k4_8_0 (cI cZ cS cA : ClassId) (q f a : Nat) : st_ok (xe_FB cI cZ cS cA 4 q f a) (st_off 4) (xw_M (fb_k 4 (st_ad 4 a) cI cZ cS cA) (st_M 4 q f)) (8, 0) := ⟨_, rfl, st_rq (fun j hj => by rcases (show j = 0 ∨ j = 1 ∨ j = 2 ∨ j = 3 by omega) with rfl | rfl | rfl | rfl <;> rfl)⟩
theorem st_k4_7_1 (cI cZ cS cA : ClassId) (q f a : Nat) : st_ok (xe_FB cI cZ cS cA 4 q f a) (st_off 4) (xw_M (fb_k 4 (st_ad 4 a) cI cZ cS cA) (st_M 4 q f)) (7, 1) := ⟨_, rfl, st_rf rfl⟩
theorem st_k4_8_1 (cI cZ cS cA : ClassId) (q f a : Nat) : st_ok (xe_FB cI cZ cS cA 4 q f a) (st_off 4) (xw_M (fb_k 4 (st_ad 4 a) cI cZ cS cA) (st_M 4 q f)) (8, 1) := ⟨_, rfl, st_rq (fun j hj => by rcases (show j = 0 ∨ j = 1 ∨ j = 2 ∨ j = 3 by omega) with rfl | rfl | rfl | rfl <;> rfl)⟩
theorem st_k4_7_2 (cI cZ cS cA : ClassId) (q f a : Nat) : st_ok (xe_FB cI cZ cS cA 4 q f a) (st_off 4) (xw_M (fb_k 4 (st_ad 4 a) cI cZ cS cA) (st_M 4 q f)) (7, 2) := ⟨_, rfl, st_rf rfl⟩
theorem st_k4_8_2 (cI cZ cS cA : ClassId) (q f a : Nat) : st_ok (xe_FB cI cZ cS cA 4 q f a) (st_off 4) (xw_M (fb_k 4 (st_ad 4 a) cI cZ cS cA) (st_M 4 q f)) (8, 2) := ⟨_, rfl, st_rq (fun j hj => by rcases (show j = 0 ∨ j = 1 ∨ j = 2 ∨ j = 3 by omega) with rfl | rfl | rfl | rfl <;> rfl)⟩
theorem st_k4_9_0 (cI cZ cS cA : ClassId) (q f a : Nat) : st_ok (xe_FB cI cZ cS cA 4 q f a) (st_off 4) (xw_M (fb_k 4 (st_ad 4 a) cI cZ cS cA) (st_M 4 q f)) (9, 0) := ⟨_, rfl, st_rf rfl⟩
theorem st_k4_10_0 (cI cZ cS cA : ClassId) (q f a : Nat) : st_ok (xe_FB cI cZ cS cA 4 q f a) (st_off 4) (xw_M (fb_k 4 (st_ad 4 a) cI cZ cS cA) (st_M 4 q f)) (10, 0) := ⟨_, rfl, st_in (fun _ _ => rfl)⟩
theorem st_k4_11_0 (cI cZ cS cA : ClassId) (q f a : Nat) : st_ok (xe_FB cI cZ cS cA 4 q f a) (st_off 4) (xw_M (fb_k 4 (st_ad 4 a) cI cZ cS cA) (st_M 4 q f)) (11, 0) := ⟨_, rfl, st_in (fun _ _ => rfl)⟩
theorem st_k4_12_0 (cI cZ cS cA : ClassId) (q f a : Nat) : st_ok (xe_FB cI cZ cS cA 4 q f a) (st_off 4) (xw_M (fb_k 4 (st_ad 4 a) cI cZ cS cA) (st_M 4 q f)) (12, 0) := ⟨_, rfl, st_in (fun _ _ => rfl)⟩
theorem st_k4_13_0 (cI cZ cS cA : ClassId) (q f a : Nat) : st_ok (xe_FB cI cZ cS cA 4 q f a) (st_off 4) (xw_M (fb_k 4 (st_ad 4 a) cI cZ cS cA) (st_M 4 q f)) (13, 0) := ⟨_, rfl, st_rf rfl⟩
theorem st_k4_14_0 (cI cZ cS cA : ClassId) (q f a : Nat) : st_ok (xe_FB cI cZ cS cA 4 q f a) (st_off 4) (xw_M (fb_k 4 (st_ad 4 a) cI cZ cS cA) (st_M 4 q f)) (14, 0) := ⟨_, rfl, st_in (fun _ _ => rfl)⟩
theorem st_k4_9_1 (cI cZ cS cA : ClassId) (q f a : Nat) : st_ok (xe_FB cI cZ cS cA 4 q f a) (st_off 4) (xw_M (fb_k 4 (st_ad 4 a) cI cZ cS cA) (st_M 4 q f)) (9, 1) := ⟨_, rfl, st_rf rfl⟩
theorem st_k4_10_1 (cI cZ cS cA : ClassId) (q f a : Nat) : st_ok (xe_FB cI cZ cS cA 4 q f a) (st_off 4) (xw_M (fb_k 4 (st_ad 4 a) cI cZ cS cA) (st_M 4 q f)) (10, 1) := ⟨_, rfl, st_in (fun _ _ => rfl)⟩
theorem st_k4_11_1 (cI cZ cS cA : ClassId) (q f a : Nat) : st_ok (xe_FB cI cZ cS cA 4 q f a) (st_off 4) (xw_M (fb_k 4 (st_ad 4 a) cI cZ cS cA) (st_M 4 q f)) (11, 1) := ⟨_, rfl, st_in (fun _ _ => rfl)⟩
theorem st_k4_12_1 (cI cZ cS cA : ClassId) (q f a : Nat) : st_ok (xe_FB cI cZ cS cA 4 q f a) (st_off 4) (xw_M (fb_k 4 (st_ad 4 a) cI cZ cS cA) (st_M 4 q f)) (12, 1) := ⟨_, rfl, st_in (fun _ _ => rfl)⟩
theorem st_k4_13_1 (cI cZ cS cA : ClassId) (q f a : Nat) : st_ok (xe_FB cI cZ cS cA 4 q f a) (st_off 4) (xw_M (fb_k 4 (st_ad 4 a) cI cZ cS cA) (st_M 4 q f)) (13, 1) := ⟨_, rfl, st_rf rfl⟩
theorem st_k4_14_1 (cI cZ cS cA : ClassId) (q f a : Nat) : st_ok (xe_FB cI cZ cS cA 4 q f a) (st_off 4) (xw_M (fb_k 4 (st_ad 4 a) cI cZ cS cA) (st_M 4 q f)) (14, 1) := ⟨_, rfl, st_in (fun _ _ => rfl)⟩
theorem st_k4_9_2 (cI cZ cS cA : ClassId) (q f a : Nat) : st_ok (xe_FB cI cZ cS cA 4 q f a) (st_off 4) (xw_M (fb_k 4 (st_ad 4 a) cI cZ cS cA) (st_M 4 q f)) (9, 2) := ⟨_, rfl, st_rf rfl⟩
theorem st_k4_10_2 (cI cZ cS cA : ClassId) (q f a : Nat) : st_ok (xe_FB cI cZ cS cA 4 q f a) (st_off 4) (xw_M (fb_k 4 (st_ad 4 a) cI cZ cS cA) (st_M 4 q f)) (10, 2) := ⟨_, rfl, st_in (fun _ _ => rfl)⟩
theorem st_k4_11_2 (cI cZ cS cA : ClassId) (q f a : Nat) : st_ok (xe_FB cI cZ cS cA 4 q f a) (st_off 4) (xw_M (fb_k 4 (st_ad 4 a) cI cZ cS cA) (st_M 4 q f)) (11, 2) := ⟨_, rfl, st_in (fun _ _ => rfl)⟩
theorem st_k4_12_2 (cI cZ cS cA : ClassId) (q f a : Nat) : st_ok (xe_FB cI cZ cS cA 4 q f a) (st_off 4) (xw_M (fb_k 4 (st_ad 4 a) cI cZ cS cA) (st_M 4 q f)) (12, 2) := ⟨_, rfl, st_in (fun _ _ => rfl)⟩
theorem st_k4_13_2 (cI cZ cS cA : ClassId) (q f a : Nat) : st_ok (xe_FB cI cZ cS cA 4 q f a) (st_off 4) (xw_M (fb_k 4 (st_ad 4 a) cI cZ cS cA) (st_M 4 q f)) (13, 2) := ⟨_, rfl, st_rf rfl⟩
theorem st_k4_14_2 (cI cZ cS cA : ClassId) (q f a : Nat) : st_ok (xe_FB cI cZ cS cA 4 q f a) (st_off 4) (xw_M (fb_k 4 (st_ad 4 a) cI cZ cS cA) (st_M 4 q f)) (14, 2) := ⟨_, rfl, st_in (fun _ _ => rfl)⟩
theorem st_k4_9_3 (cI cZ cS cA : ClassId) (q f a : Nat) : st_ok (xe_FB cI cZ cS cA 4 q f a) (st_off 4) (xw_M (fb_k 4 (st_ad 4 a) cI cZ cS cA) (st_M 4 q f)) (9, 3) := ⟨_, rfl, st_rf rfl⟩
theorem st_k4_10_3 (cI cZ cS cA : ClassId) (q f a : Nat) : st_ok (xe_FB cI cZ cS cA 4 q f a) (st_off 4) (xw_M (fb_k 4 (st_ad 4 a) cI cZ cS cA) (st_M 4 q f)) (10, 3) := ⟨_, rfl, st_in (fun _ _ => rfl)⟩
theorem st_k4_11_3 (cI cZ cS cA : ClassId) (q f a : Nat) : st_ok (xe_FB cI cZ cS cA 4 q f a) (st_off 4) (xw_M (fb_k 4 (st_ad 4 a) cI cZ cS cA) (st_M 4 q f)) (11, 3) := ⟨_, rfl, st_in (fun _ _ => rfl)⟩
theorem st_k4_12_3 (cI cZ cS cA : ClassId) (q f a : Nat) : st_ok (xe_FB cI cZ cS cA 4 q f a) (st_off 4) (xw_M (fb_k 4 (st_ad 4 a) cI cZ cS cA) (st_M 4 q f)) (12, 3) := ⟨_, rfl, st_in (fun _ _ => rfl)⟩
theorem st_k4_13_3 (cI cZ cS cA : ClassId) (q f a : Nat) : st_ok (xe_FB cI cZ cS cA 4 q f a) (st_off 4) (xw_M (fb_k 4 (st_ad 4 a) cI cZ cS cA) (st_M 4 q f)) (13, 3) := ⟨_, rfl, st_rf rfl⟩
theorem st_k4_14_3 (cI cZ cS cA : ClassId) (q f a : Nat) : st_ok (xe_FB cI cZ cS cA 4 q f a) (st_off 4) (xw_M (fb_k 4 (st_ad 4 a) cI cZ cS cA) (st_M 4 q f)) (14, 3) := ⟨_, rfl, st_in (fun _ _ => rfl)⟩
theorem st_k4_9_4 (cI cZ cS cA : ClassId) (q f a : Nat) : st_ok (xe_FB cI cZ cS cA 4 q f a) (st_off 4) (xw_M (fb_k 4 (st_ad 4 a) cI cZ cS cA) (st_M 4 q f)) (9, 4) := ⟨_, rfl, st_rf rfl⟩
theorem st_k4_10_4 (cI cZ cS cA : ClassId) (q f a : Nat) : st_ok (xe_FB cI cZ cS cA 4 q f a) (st_off 4) (xw_M (fb_k 4 (st_ad 4 a) cI cZ cS cA) (st_M 4 q f)) (10, 4) := ⟨_, rfl, st_in (fun _ _ => rfl)⟩
theorem st_k4_11_4 (cI cZ cS cA : ClassId) (q f a : Nat) : st_ok (xe_FB cI cZ cS cA 4 q f a) (st_off 4) (xw_M (fb_k 4 (st_ad 4 a) cI cZ cS cA) (st_M 4 q f)) (11, 4) := ⟨_, rfl, st_in (fun _ _ => rfl)⟩
theorem st_k4_12_4 (cI cZ cS cA : ClassId) (q f a : Nat) : st_ok (xe_FB cI cZ cS cA 4 q f a) (st_off 4) (xw_M (fb_k 4 (st_ad 4 a) cI cZ cS cA) (st_M 4 q f)) (12, 4) := ⟨_, rfl, st_in (fun _ _ => rfl)⟩
theorem st_k4_13_4 (cI cZ cS cA : ClassId) (q f a : Nat) : st_ok (xe_FB cI cZ cS cA 4 q f a) (st_off 4) (xw_M (fb_k 4 (st_ad 4 a) cI cZ cS cA) (st_M 4 q f)) (13, 4) := ⟨_, rfl, st_rf rfl⟩
theorem st_k4_14_4 (cI cZ cS cA : ClassId) (q f a : Nat) : st_ok (xe_FB cI cZ cS cA 4 q f a) (st_off 4) (xw_M (fb_k 4 (st_ad 4 a) cI cZ cS cA) (st_M 4 q f)) (14, 4) := ⟨_, rfl, st_in (fun _ _ => rfl)⟩
theorem st_k4_9_5 (cI cZ cS cA : ClassId) (q f a : Nat) : st_ok (xe_FB cI cZ cS cA 4 q f a) (st_off 4) (xw_M (fb_k 4 (st_ad 4 a) cI cZ cS cA) (st_M 4 q f)) (9, 5) := ⟨_, rfl, st_rf rfl⟩
theorem st_k4_10_5 (cI cZ cS cA : ClassId) (q f a : Nat) : st_ok (xe_FB cI cZ cS cA 4 q f a) (st_off 4) (xw_M (fb_k 4 (st_ad 4 a) cI cZ cS cA) (st_M 4 q f)) (10, 5) := ⟨_, rfl, st_in (fun _ _ => rfl)⟩
theorem st_k4_11_5 (cI cZ cS cA : ClassId) (q f a : Nat) : st_ok (xe_FB cI cZ cS cA 4 q f a) (st_off 4) (xw_M (fb_k 4 (st_ad 4 a) cI cZ cS cA) (st_M 4 q f)) (11, 5) := ⟨_, rfl, st_in (fun _ _ => rfl)⟩
theorem st_k4_12_5 (cI cZ cS cA : ClassId) (q f a : Nat) : st_ok (xe_FB cI cZ cS cA 4 q f a) (st_off 4) (xw_M (fb_k 4 (st_ad 4 a) cI cZ cS cA) (st_M 4 q f)) (12, 5) := ⟨_, rfl, st_in (fun _ _ => rfl)⟩
theorem st_k4_13_5 (cI cZ cS cA : ClassId) (q f a : Nat) : st_ok (xe_FB cI cZ cS cA 4 q f a) (st_off 4) (xw_M (fb_k 4 (st_ad 4 a) cI cZ cS cA) (st_M 4 q f)) (13, 5) := ⟨_, rfl, st_rf rfl⟩
theorem st_k4_14_5 (cI cZ cS cA : ClassId) (q f a : Nat) : st_ok (xe_FB cI cZ cS cA 4 q f a) (st_off 4) (xw_M (fb_k 4 (st_ad 4 a) cI cZ cS cA) (st_M 4 q f)) (14, 5) := ⟨_, rfl, st_in (fun _ _ => rfl)⟩
theorem st_k4_15_0 (cI cZ cS cA : ClassId) (q f a : Nat) : st_ok (xe_FB cI cZ cS cA 4 q f a) (st_off 4) (xw_M (fb_k 4 (st_ad 4 a) cI cZ cS cA) (st_M 4 q f)) (15, 0) := ⟨_, rfl, st_rf rfl⟩
theorem st_k4_15_1 (cI cZ cS cA : ClassId) (q f a : Nat) : st_ok (xe_FB cI cZ cS cA 4 q f a) (st_off 4) (xw_M (fb_k 4 (st_ad 4 a) cI cZ cS cA) (st_M 4 q f)) (15, 1) := ⟨_, rfl, st_rf rfl⟩
theorem st_k4_15_2 (cI cZ cS cA : ClassId) (q f a : Nat) : st_ok (xe_FB cI cZ cS cA 4 q f a) (st_off 4) (xw_M (fb_k 4 (st_ad 4 a) cI cZ cS cA) (st_M 4 q f)) (15, 2) := ⟨_, rfl, st_rf rfl⟩
theorem st_k4_15_3 (cI cZ cS cA : ClassId) (q f a : Nat) : st_ok (xe_FB cI cZ cS cA 4 q f a) (st_off 4) (xw_M (fb_k 4 (st_ad 4 a) cI cZ cS cA) (st_M 4 q f)) (15, 3) := ⟨_, rfl, st_rf rfl⟩
theorem st_k4_15_5 (cI cZ cS cA : ClassId) (q f a : Nat) : st_ok (xe_FB cI cZ cS cA 4 q f a) (st_off 4) (xw_M (fb_k 4 (st_ad 4 a) cI cZ cS cA) (st_M 4 q f)) (15, 5) := ⟨_, rfl, st_rf rfl⟩
theorem st_k4_15_6 (cI cZ cS cA : ClassId) (q f a : Nat) : st_ok (xe_FB cI cZ cS cA 4 q f a) (st_off 4) (xw_M (fb_k 4 (st_ad 4 a) cI cZ cS cA) (st_M 4 q f)) (15, 6) := ⟨_, rfl, st_rf rfl⟩
theorem st_k4_15_7 (cI cZ cS cA : ClassId) (q f a : Nat) : st_ok (xe_FB cI cZ cS cA 4 q f a) (st_off 4) (xw_M (fb_k 4 (st_ad 4 a) cI cZ cS cA) (st_M 4 q f)) (15, 7) := ⟨_, rfl, st_rf rfl⟩
theorem st_k4_15_8 (cI cZ cS cA : ClassId) (q f a : Nat) : st_ok (xe_FB cI cZ cS cA 4 q f a) (st_off 4) (xw_M (fb_k 4 (st_ad 4 a) cI cZ cS cA) (st_M 4 q f)) (15, 8) := ⟨_, rfl, st_rf rfl⟩
theorem st_k4_15_10 (cI cZ cS cA : ClassId) (q f a : Nat) : st_ok (xe_FB cI cZ cS cA 4 q f a) (st_off 4) (xw_M (fb_k 4 (st_ad 4 a) cI cZ cS cA) (st_M 4 q f)) (15, 10) := ⟨_, rfl, st_rf rfl⟩
theorem st_k4_15_11 (cI cZ cS cA : ClassId) (q f a : Nat) : st_ok (xe_FB cI cZ cS cA 4 q f a) (st_off 4) (xw_M (fb_k 4 (st_ad 4 a) cI cZ cS cA) (st_M 4 q f)) (15, 11) := ⟨_, rfl, st_rf rfl⟩
theorem st_k4_15_12 (cI cZ cS cA : ClassId) (q f a : Nat) : st_ok (xe_FB cI cZ cS cA 4 q f a) (st_off 4) (xw_M (fb_k 4 (st_ad 4 a) cI cZ cS cA) (st_M 4 q f)) (15, 12) := ⟨_, rfl, st_rf rfl⟩
theorem st_k4_15_13 (cI cZ cS cA : ClassId) (q f a : Nat) : st_ok (xe_FB cI cZ cS cA 4 q f a) (st_off 4) (xw_M (fb_k 4 (st_ad 4 a) cI cZ cS cA) (st_M 4 q f)) (15, 13) := ⟨_, rfl, st_rf rfl⟩
theorem st_c4 (cI cZ cS cA : ClassId) (q f a : Nat) : ∀ k ∈ fb_ids 4, st_ok (xe_FB cI cZ cS cA 4 q f a) (st_off 4) (xw_M (fb_k 4 (st_ad 4 a) cI cZ cS cA) (st_M 4 q f)) k := by
  rw [st_ids4]
  exact (List.forall_mem_cons.mpr ⟨st_k4_0_0 cI cZ cS cA q f a, (List.forall_mem_cons.mpr ⟨st_k4_1_0 cI cZ cS cA q f a, (List.forall_mem_cons.mpr ⟨st_k4_2_0 cI cZ cS cA q f a, (List.forall_mem_cons.mpr ⟨st_k4_3_0 cI cZ cS cA q f a, (List.forall_mem_cons.mpr ⟨st_k4_4_0 cI cZ cS cA q f a, (List.forall_mem_cons.mpr ⟨st_k4_5_0 cI cZ cS cA q f a, (List.forall_mem_cons.mpr ⟨st_k4_6_0 cI cZ cS cA q f a, (List.forall_mem_cons.mpr ⟨st_k4_7_0 cI cZ cS cA q f a, (List.forall_mem_cons.mpr ⟨st_k4_8_0 cI cZ cS cA q f a, (List.forall_mem_cons.mpr ⟨st_k4_7_1 cI cZ cS cA q f a, (List.forall_mem_cons.mpr ⟨st_k4_8_1 cI cZ cS cA q f a, (List.forall_mem_cons.mpr ⟨st_k4_7_2 cI cZ cS cA q f a, (List.forall_mem_cons.mpr ⟨st_k4_8_2 cI cZ cS cA q f a, (List.forall_mem_cons.mpr ⟨st_k4_9_0 cI cZ cS cA q f a, (List.forall_mem_cons.mpr ⟨st_k4_10_0 cI cZ cS cA q f a, (List.forall_mem_cons.mpr ⟨st_k4_11_0 cI cZ cS cA q f a, (List.forall_mem_cons.mpr ⟨st_k4_12_0 cI cZ cS cA q f a, (List.forall_mem_cons.mpr ⟨st_k4_13_0 cI cZ cS cA q f a, (List.forall_mem_cons.mpr ⟨st_k4_14_0 cI cZ cS cA q f a, (List.forall_mem_cons.mpr ⟨st_k4_9_1 cI cZ cS cA q f a, (List.forall_mem_cons.mpr ⟨st_k4_10_1 cI cZ cS cA q f a, (List.forall_mem_cons.mpr ⟨st_k4_11_1 cI cZ cS cA q f a, (List.forall_mem_cons.mpr ⟨st_k4_12_1 cI cZ cS cA q f a, (List.forall_mem_cons.mpr ⟨st_k4_13_1 cI cZ cS cA q f a, (List.forall_mem_cons.mpr ⟨st_k4_14_1 cI cZ cS cA q f a, (List.forall_mem_cons.mpr ⟨st_k4_9_2 cI cZ cS cA q f a, (List.forall_mem_cons.mpr ⟨st_k4_10_2 cI cZ cS cA q f a, (List.forall_mem_cons.mpr ⟨st_k4_11_2 cI cZ cS cA q f a, (List.forall_mem_cons.mpr ⟨st_k4_12_2 cI cZ cS cA q f a, (List.forall_mem_cons.mpr ⟨st_k4_13_2 cI cZ cS cA q f a, (List.forall_mem_cons.mpr ⟨st_k4_14_2 cI cZ cS cA q f a, (List.forall_mem_cons.mpr ⟨st_k4_9_3 cI cZ cS cA q f a, (List.forall_mem_cons.mpr ⟨st_k4_10_3 cI cZ cS cA q f a, (List.forall_mem_cons.mpr ⟨st_k4_11_3 cI cZ cS cA q f a, (List.forall_mem_cons.mpr ⟨st_k4_12_3 cI cZ cS cA q f a, (List.forall_mem_cons.mpr ⟨st_k4_13_3 cI cZ cS cA q f a, (List.forall_mem_cons.mpr ⟨st_k4_14_3 cI cZ cS cA q f a, (List.forall_mem_cons.mpr ⟨st_k4_9_4 cI cZ cS cA q f a, (List.forall_mem_cons.mpr ⟨st_k4_10_4 cI cZ cS cA q f a, (List.forall_mem_cons.mpr ⟨st_k4_11_4 cI cZ cS cA q f a, (List.forall_mem_cons.mpr ⟨st_k4_12_4 cI cZ cS cA q f a, (List.forall_mem_cons.mpr ⟨st_k4_13_4 cI cZ cS cA q f a, (List.forall_mem_cons.mpr ⟨st_k4_14_4 cI cZ cS cA q f a, (List.forall_mem_cons.mpr ⟨st_k4_9_5 cI cZ cS cA q f a, (List.forall_mem_cons.mpr ⟨st_k4_10_5 cI cZ cS cA q f a, (List.forall_mem_cons.mpr ⟨st_k4_11_5 cI cZ cS cA q f a, (List.forall_mem_cons.mpr ⟨st_k4_12_5 cI cZ cS cA q f a, (List.forall_mem_cons.mpr ⟨st_k4_13_5 cI cZ cS cA q f a, (List.forall_mem_cons.mpr ⟨st_k4_14_5 cI cZ cS cA q f a, (List.forall_mem_cons.mpr ⟨st_k4_15_0 cI cZ cS cA q f a, (List.forall_mem_cons.mpr ⟨st_k4_15_1 cI cZ cS cA q f a, (List.forall_mem_cons.mpr ⟨st_k4_15_2 cI cZ cS cA q f a, (List.forall_mem_cons.mpr ⟨st_k4_15_3 cI cZ cS cA q f a, (List.forall_mem_cons.mpr ⟨st_k4_15_5 cI cZ cS cA q f a, (List.forall_mem_cons.mpr ⟨st_k4_15_6 cI cZ cS cA q f a, (List.forall_mem_cons.mpr ⟨st_k4_15_7 cI cZ cS cA q f a, (List.forall_mem_cons.mpr ⟨st_k4_15_8 cI cZ cS cA q f a, (List.forall_mem_cons.mpr ⟨st_k4_15_10 cI cZ cS cA q f a, (List.forall_mem_cons.mpr ⟨st_k4_15_11 cI cZ cS cA q f a, (List.forall_mem_cons.mpr ⟨st_k4_15_12 cI cZ cS cA q f a, (List.forall_mem_cons.mpr ⟨st_k4_15_13 cI cZ cS cA q f a, (fun _ h => absurd h List.not_mem_nil)⟩)⟩)⟩)⟩)⟩)⟩)⟩)⟩)⟩)⟩)⟩)⟩)⟩)⟩)⟩)⟩)⟩)⟩)⟩)⟩)⟩)⟩)⟩)⟩)⟩)⟩)⟩)⟩)⟩)⟩)⟩)⟩)⟩)⟩)⟩)⟩)⟩)⟩)⟩)⟩)⟩)⟩)⟩)⟩)⟩)⟩)⟩)⟩)⟩)⟩)⟩)⟩)⟩)⟩)⟩)⟩)⟩)⟩)⟩)⟩)⟩)
theorem st_ids5 : fb_ids 5 = [(0, 0), (1, 0), (2, 0), (3, 0), (4, 0), (5, 0), (6, 0), (7, 0), (8, 0), (7, 1), (8, 1), (7, 2), (8, 2), (9, 0), (10, 0), (11, 0), (12, 0), (13, 0), (14, 0), (9, 1), (10, 1), (11, 1), (12, 1), (13, 1), (14, 1), (9, 2), (10, 2), (11, 2), (12, 2), (13, 2), (14, 2), (9, 3), (10, 3), (11, 3), (12, 3), (13, 3), (14, 3), (9, 4), (10, 4), (11, 4), (12, 4), (13, 4), (14, 4), (9, 5), (10, 5), (11, 5), (12, 5), (13, 5), (14, 5), (15, 0), (15, 1), (15, 2), (15, 3), (15, 4), (15, 5), (15, 6), (15, 7), (15, 8), (15, 9), (15, 10), (15, 11), (15, 12), (15, 13), (15, 14)] := by decide +kernel
theorem st_nd5 : ((fb_ids 5).map (st_off 5)).Nodup := by decide +kernel
theorem st_lt5 : ∀ k ∈ fb_ids 5, st_off 5 k < 7 + 3 * (14 + 5) := by decide +kernel
theorem st_k5_0_0 (cI cZ cS cA : ClassId) (q f a : Nat) : st_ok (xe_FB cI cZ cS cA 5 q f a) (st_off 5) (xw_M (fb_k 5 (st_ad 5 a) cI cZ cS cA) (st_M 5 q f)) (0, 0) := ⟨_, rfl, st_rf rfl⟩
theorem st_k5_1_0 (cI cZ cS cA : ClassId) (q f a : Nat) : st_ok (xe_FB cI cZ cS cA 5 q f a) (st_off 5) (xw_M (fb_k 5 (st_ad 5 a) cI cZ cS cA) (st_M 5 q f)) (1, 0) := ⟨_, rfl, st_rf rfl⟩
theorem st_k5_2_0 (cI cZ cS cA : ClassId) (q f a : Nat) : st_ok (xe_FB cI cZ cS cA 5 q f a) (st_off 5) (xw_M (fb_k 5 (st_ad 5 a) cI cZ cS cA) (st_M 5 q f)) (2, 0) := ⟨_, rfl, st_rf rfl⟩
theorem st_k5_3_0 (cI cZ cS cA : ClassId) (q f a : Nat) : st_ok (xe_FB cI cZ cS cA 5 q f a) (st_off 5) (xw_M (fb_k 5 (st_ad 5 a) cI cZ cS cA) (st_M 5 q f)) (3, 0) := ⟨_, rfl, st_rq (fun j hj => by rcases (show j = 0 ∨ j = 1 ∨ j = 2 by omega) with rfl | rfl | rfl <;> rfl)⟩
theorem st_k5_4_0 (cI cZ cS cA : ClassId) (q f a : Nat) : st_ok (xe_FB cI cZ cS cA 5 q f a) (st_off 5) (xw_M (fb_k 5 (st_ad 5 a) cI cZ cS cA) (st_M 5 q f)) (4, 0) := ⟨_, rfl, st_in (fun _ _ => rfl)⟩
theorem st_k5_5_0 (cI cZ cS cA : ClassId) (q f a : Nat) : st_ok (xe_FB cI cZ cS cA 5 q f a) (st_off 5) (xw_M (fb_k 5 (st_ad 5 a) cI cZ cS cA) (st_M 5 q f)) (5, 0) := ⟨_, rfl, st_in (fun _ _ => rfl)⟩
theorem st_k5_6_0 (cI cZ cS cA : ClassId) (q f a : Nat) : st_ok (xe_FB cI cZ cS cA 5 q f a) (st_off 5) (xw_M (fb_k 5 (st_ad 5 a) cI cZ cS cA) (st_M 5 q f)) (6, 0) := ⟨_, rfl, st_rf rfl⟩
theorem st_k5_7_0 (cI cZ cS cA : ClassId) (q f a : Nat) : st_ok (xe_FB cI cZ cS cA 5 q f a) (st_off 5) (xw_M (fb_k 5 (st_ad 5 a) cI cZ cS cA) (st_M 5 q f)) (7, 0) := ⟨_, rfl, st_rf rfl⟩
theorem st_k5_8_0 (cI cZ cS cA : ClassId) (q f a : Nat) : st_ok (xe_FB cI cZ cS cA 5 q f a) (st_off 5) (xw_M (fb_k 5 (st_ad 5 a) cI cZ cS cA) (st_M 5 q f)) (8, 0) := ⟨_, rfl, st_rq (fun j hj => by rcases (show j = 0 ∨ j = 1 ∨ j = 2 ∨ j = 3 ∨ j = 4 by omega) with rfl | rfl | rfl | rfl | rfl <;> rfl)⟩
theorem st_k5_7_1 (cI cZ cS cA : ClassId) (q f a : Nat) : st_ok (xe_FB cI cZ cS cA 5 q f a) (st_off 5) (xw_M (fb_k 5 (st_ad 5 a) cI cZ cS cA) (st_M 5 q f)) (7, 1) := ⟨_, rfl, st_rf rfl⟩
theorem st_k5_8_1 (cI cZ cS cA : ClassId) (q f a : Nat) : st_ok (xe_FB cI cZ cS cA 5 q f a) (st_off 5) (xw_M (fb_k 5 (st_ad 5 a) cI cZ cS cA) (st_M 5 q f)) (8, 1) := ⟨_, rfl, st_rq (fun j hj => by rcases (show j = 0 ∨ j = 1 ∨ j = 2 ∨ j = 3 ∨ j = 4 by omega) with rfl | rfl | rfl | rfl | rfl <;> rfl)⟩
theorem st_k5_7_2 (cI cZ cS cA : ClassId) (q f a : Nat) : st_ok (xe_FB cI cZ cS cA 5 q f a) (st_off 5) (xw_M (fb_k 5 (st_ad 5 a) cI cZ cS cA) (st_M 5 q f)) (7, 2) := ⟨_, rfl, st_rf rfl⟩
theorem st_k5_8_2 (cI cZ cS cA : ClassId) (q f a : Nat) : st_ok (xe_FB cI cZ cS cA 5 q f a) (st_off 5) (xw_M (fb_k 5 (st_ad 5 a) cI cZ cS cA) (st_M 5 q f)) (8, 2) := ⟨_, rfl, st_rq (fun j hj => by rcases (show j = 0 ∨ j = 1 ∨ j = 2 ∨ j = 3 ∨ j = 4 by omega) with rfl | rfl | rfl | rfl | rfl <;> rfl)⟩
theorem st_k5_9_0 (cI cZ cS cA : ClassId) (q f a : Nat) : st_ok (xe_FB cI cZ cS cA 5 q f a) (st_off 5) (xw_M (fb_k 5 (st_ad 5 a) cI cZ cS cA) (st_M 5 q f)) (9, 0) := ⟨_, rfl, st_rf rfl⟩
theorem st_k5_10_0 (cI cZ cS cA : ClassId) (q f a : Nat) : st_ok (xe_FB cI cZ cS cA 5 q f a) (st_off 5) (xw_M (fb_k 5 (st_ad 5 a) cI cZ cS cA) (st_M 5 q f)) (10, 0) := ⟨_, rfl, st_in (fun _ _ => rfl)⟩
theorem st_k5_11_0 (cI cZ cS cA : ClassId) (q f a : Nat) : st_ok (xe_FB cI cZ cS cA 5 q f a) (st_off 5) (xw_M (fb_k 5 (st_ad 5 a) cI cZ cS cA) (st_M 5 q f)) (11, 0) := ⟨_, rfl, st_in (fun _ _ => rfl)⟩
theorem st_k5_12_0 (cI cZ cS cA : ClassId) (q f a : Nat) : st_ok (xe_FB cI cZ cS cA 5 q f a) (st_off 5) (xw_M (fb_k 5 (st_ad 5 a) cI cZ cS cA) (st_M 5 q f)) (12, 0) := ⟨_, rfl, st_in (fun _ _ => rfl)⟩
theorem st_k5_13_0 (cI cZ cS cA : ClassId) (q f a : Nat) : st_ok (xe_FB cI cZ cS cA 5 q f a) (st_off 5) (xw_M (fb_k 5 (st_ad 5 a) cI cZ cS cA) (st_M 5 q f)) (13, 0) := ⟨_, rfl, st_rf rfl⟩
theorem st_k5_14_0 (cI cZ cS cA : ClassId) (q f a : Nat) : st_ok (xe_FB cI cZ cS cA 5 q f a) (st_off 5) (xw_M (fb_k 5 (st_ad 5 a) cI cZ cS cA) (st_M 5 q f)) (14, 0) := ⟨_, rfl, st_in (fun _ _ => rfl)⟩
theorem st_k5_9_1 (cI cZ cS cA : ClassId) (q f a : Nat) : st_ok (xe_FB cI cZ cS cA 5 q f a) (st_off 5) (xw_M (fb_k 5 (st_ad 5 a) cI cZ cS cA) (st_M 5 q f)) (9, 1) := ⟨_, rfl, st_rf rfl⟩
theorem st_k5_10_1 (cI cZ cS cA : ClassId) (q f a : Nat) : st_ok (xe_FB cI cZ cS cA 5 q f a) (st_off 5) (xw_M (fb_k 5 (st_ad 5 a) cI cZ cS cA) (st_M 5 q f)) (10, 1) := ⟨_, rfl, st_in (fun _ _ => rfl)⟩
theorem st_k5_11_1 (cI cZ cS cA : ClassId) (q f a : Nat) : st_ok (xe_FB cI cZ cS cA 5 q f a) (st_off 5) (xw_M (fb_k 5 (st_ad 5 a) cI cZ cS cA) (st_M 5 q f)) (11, 1) := ⟨_, rfl, st_in (fun _ _ => rfl)⟩
theorem st_k5_12_1 (cI cZ cS cA : ClassId) (q f a : Nat) : st_ok (xe_FB cI cZ cS cA 5 q f a) (st_off 5) (xw_M (fb_k 5 (st_ad 5 a) cI cZ cS cA) (st_M 5 q f)) (12, 1) := ⟨_, rfl, st_in (fun _ _ => rfl)⟩
theorem st_k5_13_1 (cI cZ cS cA : ClassId) (q f a : Nat) : st_ok (xe_FB cI cZ cS cA 5 q f a) (st_off 5) (xw_M (fb_k 5 (st_ad 5 a) cI cZ cS cA) (st_M 5 q f)) (13, 1) := ⟨_, rfl, st_rf rfl⟩
theorem st_k5_14_1 (cI cZ cS cA : ClassId) (q f a : Nat) : st_ok (xe_FB cI cZ cS cA 5 q f a) (st_off 5) (xw_M (fb_k 5 (st_ad 5 a) cI cZ cS cA) (st_M 5 q f)) (14, 1) := ⟨_, rfl, st_in (fun _ _ => rfl)⟩
theorem st_k5_9_2 (cI cZ cS cA : ClassId) (q f a : Nat) : st_ok (xe_FB cI cZ cS cA 5 q f a) (st_off 5) (xw_M (fb_k 5 (st_ad 5 a) cI cZ cS cA) (st_M 5 q f)) (9, 2) := ⟨_, rfl, st_rf rfl⟩
theorem st_k5_10_2 (cI cZ cS cA : ClassId) (q f a : Nat) : st_ok (xe_FB cI cZ cS cA 5 q f a) (st_off 5) (xw_M (fb_k 5 (st_ad 5 a) cI cZ cS cA) (st_M 5 q f)) (10, 2) := ⟨_, rfl, st_in (fun _ _ => rfl)⟩
theorem st_k5_11_2 (cI cZ cS cA : ClassId) (q f a : Nat) : st_ok (xe_FB cI cZ cS cA 5 q f a) (st_off 5) (xw_M (fb_k 5 (st_ad 5 a) cI cZ cS cA) (st_M 5 q f)) (11, 2) := ⟨_, rfl, st_in (fun _ _ => rfl)⟩
theorem st_k5_12_2 (cI cZ cS cA : ClassId) (q f a : Nat) : st_ok (xe_FB cI cZ cS cA 5 q f a) (st_off 5) (xw_M (fb_k 5 (st_ad 5 a) cI cZ cS cA) (st_M 5 q f)) (12, 2) := ⟨_, rfl, st_in (fun _ _ => rfl)⟩
theorem st_k5_13_2 (cI cZ cS cA : ClassId) (q f a : Nat) : st_ok (xe_FB cI cZ cS cA 5 q f a) (st_off 5) (xw_M (fb_k 5 (st_ad 5 a) cI cZ cS cA) (st_M 5 q f)) (13, 2) := ⟨_, rfl, st_rf rfl⟩
theorem st_k5_14_2 (cI cZ cS cA : ClassId) (q f a : Nat) : st_ok (xe_FB cI cZ cS cA 5 q f a) (st_off 5) (xw_M (fb_k 5 (st_ad 5 a) cI cZ cS cA) (st_M 5 q f)) (14, 2) := ⟨_, rfl, st_in (fun _ _ => rfl)⟩
theorem st_k5_9_3 (cI cZ cS cA : ClassId) (q f a : Nat) : st_ok (xe_FB cI cZ cS cA 5 q f a) (st_off 5) (xw_M (fb_k 5 (st_ad 5 a) cI cZ cS cA) (st_M 5 q f)) (9, 3) := ⟨_, rfl, st_rf rfl⟩
theorem st_k5_10_3 (cI cZ cS cA : ClassId) (q f a : Nat) : st_ok (xe_FB cI cZ cS cA 5 q f a) (st_off 5) (xw_M (fb_k 5 (st_ad 5 a) cI cZ cS cA) (st_M 5 q f)) (10, 3) := ⟨_, rfl, st_in (fun _ _ => rfl)⟩
theorem st_k5_11_3 (cI cZ cS cA : ClassId) (q f a : Nat) : st_ok (xe_FB cI cZ cS cA 5 q f a) (st_off 5) (xw_M (fb_k 5 (st_ad 5 a) cI cZ cS cA) (st_M 5 q f)) (11, 3) := ⟨_, rfl, st_in (fun _ _ => rfl)⟩
theorem st_k5_12_3 (cI cZ cS cA : ClassId) (q f a : Nat) : st_ok (xe_FB cI cZ cS cA 5 q f a) (st_off 5) (xw_M (fb_k 5 (st_ad 5 a) cI cZ cS cA) (st_M 5 q f)) (12, 3) := ⟨_, rfl, st_in (fun _ _ => rfl)⟩
theorem st_k5_13_3 (cI cZ cS cA : ClassId) (q f a : Nat) : st_ok (xe_FB cI cZ cS cA 5 q f a) (st_off 5) (xw_M (fb_k 5 (st_ad 5 a) cI cZ cS cA) (st_M 5 q f)) (13, 3) := ⟨_, rfl, st_rf rfl⟩
theorem st_k5_14_3 (cI cZ cS cA : ClassId) (q f a : Nat) : st_ok (xe_FB cI cZ cS cA 5 q f a) (st_off 5) (xw_M (fb_k 5 (st_ad 5 a) cI cZ cS cA) (st_M 5 q f)) (14, 3) := ⟨_, rfl, st_in (fun _ _ => rfl)⟩
theorem st_k5_9_4 (cI cZ cS cA : ClassId) (q f a : Nat) : st_ok (xe_FB cI cZ cS cA 5 q f a) (st_off 5) (xw_M (fb_k 5 (st_ad 5 a) cI cZ cS cA) (st_M 5 q f)) (9, 4) := ⟨_, rfl, st_rf rfl⟩
theorem st_k5_10_4 (cI cZ cS cA : ClassId) (q f a : Nat) : st_ok (xe_FB cI cZ cS cA 5 q f a) (st_off 5) (xw_M (fb_k 5 (st_ad 5 a) cI cZ cS cA) (st_M 5 q f)) (10, 4) := ⟨_, rfl, st_in (fun _ _ => rfl)⟩
theorem st_k5_11_4 (cI cZ cS cA : ClassId) (q f a : Nat) : st_ok (xe_FB cI cZ cS cA 5 q f a) (st_off 5) (xw_M (fb_k 5 (st_ad 5 a) cI cZ cS cA) (st_M 5 q f)) (11, 4) := ⟨_, rfl, st_in (fun _ _ => rfl)⟩
theorem st_k5_12_4 (cI cZ cS cA : ClassId) (q f a : Nat) : st_ok (xe_FB cI cZ cS cA 5 q f a) (st_off 5) (xw_M (fb_k 5 (st_ad 5 a) cI cZ cS cA) (st_M 5 q f)) (12, 4) := ⟨_, rfl, st_in (fun _ _ => rfl)⟩
theorem st_k5_13_4 (cI cZ cS cA : ClassId) (q f a : Nat) : st_ok (xe_FB cI cZ cS cA 5 q f a) (st_off 5) (xw_M (fb_k 5 (st_ad 5 a) cI cZ cS cA) (st_M 5 q f)) (13, 4) := ⟨_, rfl, st_rf rfl⟩
theorem st_k5_14_4 (cI cZ cS cA : ClassId) (q f a : Nat) : st_ok (xe_FB cI cZ cS cA 5 q f a) (st_off 5) (xw_M (fb_k 5 (st_ad 5 a) cI cZ cS cA) (st_M 5 q f)) (14, 4) := ⟨_, rfl, st_in (fun _ _ => rfl)⟩
theorem st_k5_9_5 (cI cZ cS cA : ClassId) (q f a : Nat) : st_ok (xe_FB cI cZ cS cA 5 q f a) (st_off 5) (xw_M (fb_k 5 (st_ad 5 a) cI cZ cS cA) (st_M 5 q f)) (9, 5) := ⟨_, rfl, st_rf rfl⟩
theorem st_k5_10_5 (cI cZ cS cA : ClassId) (q f a : Nat) : st_ok (xe_FB cI cZ cS cA 5 q f a) (st_off 5) (xw_M (fb_k 5 (st_ad 5 a) cI cZ cS cA) (st_M 5 q f)) (10, 5) := ⟨_, rfl, st_in (fun _ _ => rfl)⟩
theorem st_k5_11_5 (cI cZ cS cA : ClassId) (q f a : Nat) : st_ok (xe_FB cI cZ cS cA 5 q f a) (st_off 5) (xw_M (fb_k 5 (st_ad 5 a) cI cZ cS cA) (st_M 5 q f)) (11, 5) := ⟨_, rfl, st_in (fun _ _ => rfl)⟩
theorem st_k5_12_5 (cI cZ cS cA : ClassId) (q f a : Nat) : st_ok (xe_FB cI cZ cS cA 5 q f a) (st_off 5) (xw_M (fb_k 5 (st_ad 5 a) cI cZ cS cA) (st_M 5 q f)) (12, 5) := ⟨_, rfl, st_in (fun _ _ => rfl)⟩
theorem st_k5_13_5 (cI cZ cS cA : ClassId) (q f a : Nat) : st_ok (xe_FB cI cZ cS cA 5 q f a) (st_off 5) (xw_M (fb_k 5 (st_ad 5 a) cI cZ cS cA) (st_M 5 q f)) (13, 5) := ⟨_, rfl, st_rf rfl⟩
theorem st_k5_14_5 (cI cZ cS cA : ClassId) (q f a : Nat) : st_ok (xe_FB cI cZ cS cA 5 q f a) (st_off 5) (xw_M (fb_k 5 (st_ad 5 a) cI cZ cS cA) (st_M 5 q f)) (14, 5) := ⟨_, rfl, st_in (fun _ _ => rfl)⟩
theorem st_k5_15_0 (cI cZ cS cA : ClassId) (q f a : Nat) : st_ok (xe_FB cI cZ cS cA 5 q f a) (st_off 5) (xw_M (fb_k 5 (st_ad 5 a) cI cZ cS cA) (st_M 5 q f)) (15, 0) := ⟨_, rfl, st_rf rfl⟩
theorem st_k5_15_1 (cI cZ cS cA : ClassId) (q f a : Nat) : st_ok (xe_FB cI cZ cS cA 5 q f a) (st_off 5) (xw_M (fb_k 5 (st_ad 5 a) cI cZ cS cA) (st_M 5 q f)) (15, 1) := ⟨_, rfl, st_rf rfl⟩
theorem st_k5_15_2 (cI cZ cS cA : ClassId) (q f a : Nat) : st_ok (xe_FB cI cZ cS cA 5 q f a) (st_off 5) (xw_M (fb_k 5 (st_ad 5 a) cI cZ cS cA) (st_M 5 q f)) (15, 2) := ⟨_, rfl, st_rf rfl⟩
theorem st_k5_15_3 (cI cZ cS cA : ClassId) (q f a : Nat) : st_ok (xe_FB cI cZ cS cA 5 q f a) (st_off 5) (xw_M (fb_k 5 (st_ad 5 a) cI cZ cS cA) (st_M 5 q f)) (15, 3) := ⟨_, rfl, st_rf rfl⟩
theorem st_k5_15_4 (cI cZ cS cA : ClassId) (q f a : Nat) : st_ok (xe_FB cI cZ cS cA 5 q f a) (st_off 5) (xw_M (fb_k 5 (st_ad 5 a) cI cZ cS cA) (st_M 5 q f)) (15, 4) := ⟨_, rfl, st_rf rfl⟩
theorem st_k5_15_5 (cI cZ cS cA : ClassId) (q f a : Nat) : st_ok (xe_FB cI cZ cS cA 5 q f a) (st_off 5) (xw_M (fb_k 5 (st_ad 5 a) cI cZ cS cA) (st_M 5 q f)) (15, 5) := ⟨_, rfl, st_rf rfl⟩
theorem st_k5_15_6 (cI cZ cS cA : ClassId) (q f a : Nat) : st_ok (xe_FB cI cZ cS cA 5 q f a) (st_off 5) (xw_M (fb_k 5 (st_ad 5 a) cI cZ cS cA) (st_M 5 q f)) (15, 6) := ⟨_, rfl, st_rf rfl⟩
theorem st_k5_15_7 (cI cZ cS cA : ClassId) (q f a : Nat) : st_ok (xe_FB cI cZ cS cA 5 q f a) (st_off 5) (xw_M (fb_k 5 (st_ad 5 a) cI cZ cS cA) (st_M 5 q f)) (15, 7) := ⟨_, rfl, st_rf rfl⟩
theorem st_k5_15_8 (cI cZ cS cA : ClassId) (q f a : Nat) : st_ok (xe_FB cI cZ cS cA 5 q f a) (st_off 5) (xw_M (fb_k 5 (st_ad 5 a) cI cZ cS cA) (st_M 5 q f)) (15, 8) := ⟨_, rfl, st_rf rfl⟩
theorem st_k5_15_9 (cI cZ cS cA : ClassId) (q f a : Nat) : st_ok (xe_FB cI cZ cS cA 5 q f a) (st_off 5) (xw_M (fb_k 5 (st_ad 5 a) cI cZ cS cA) (st_M 5 q f)) (15, 9) := ⟨_, rfl, st_rf rfl⟩
theorem st_k5_15_10 (cI cZ cS cA : ClassId) (q f a : Nat) : st_ok (xe_FB cI cZ cS cA 5 q f a) (st_off 5) (xw_M (fb_k 5 (st_ad 5 a) cI cZ cS cA) (st_M 5 q f)) (15, 10) := ⟨_, rfl, st_rf rfl⟩
theorem st_k5_15_11 (cI cZ cS cA : ClassId) (q f a : Nat) : st_ok (xe_FB cI cZ cS cA 5 q f a) (st_off 5) (xw_M (fb_k 5 (st_ad 5 a) cI cZ cS cA) (st_M 5 q f)) (15, 11) := ⟨_, rfl, st_rf rfl⟩
theorem st_k5_15_12 (cI cZ cS cA : ClassId) (q f a : Nat) : st_ok (xe_FB cI cZ cS cA 5 q f a) (st_off 5) (xw_M (fb_k 5 (st_ad 5 a) cI cZ cS cA) (st_M 5 q f)) (15, 12) := ⟨_, rfl, st_rf rfl⟩
theorem st_k5_15_13 (cI cZ cS cA : ClassId) (q f a : Nat) : st_ok (xe_FB cI cZ cS cA 5 q f a) (st_off 5) (xw_M (fb_k 5 (st_ad 5 a) cI cZ cS cA) (st_M 5 q f)) (15, 13) := ⟨_, rfl, st_rf rfl⟩
theorem st_k5_15_14 (cI cZ cS cA : ClassId) (q f a : Nat) : st_ok (xe_FB cI cZ cS cA 5 q f a) (st_off 5) (xw_M (fb_k 5 (st_ad 5 a) cI cZ cS cA) (st_M 5 q f)) (15, 14) := ⟨_, rfl, st_rf rfl⟩
theorem st_c5 (cI cZ cS cA : ClassId) (q f a : Nat) : ∀ k ∈ fb_ids 5, st_ok (xe_FB cI cZ cS cA 5 q f a) (st_off 5) (xw_M (fb_k 5 (st_ad 5 a) cI cZ cS cA) (st_M 5 q f)) k := by
  rw [st_ids5]
  exact (List.forall_mem_cons.mpr ⟨st_k5_0_0 cI cZ cS cA q f a, (List.forall_mem_cons.mpr ⟨st_k5_1_0 cI cZ cS cA q f a, (List.forall_mem_cons.mpr ⟨st_k5_2_0 cI cZ cS cA q f a, (List.forall_mem_cons.mpr ⟨st_k5_3_0 cI cZ cS cA q f a, (List.forall_mem_cons.mpr ⟨st_k5_4_0 cI cZ cS cA q f a, (List.forall_mem_cons.mpr ⟨st_k5_5_0 cI cZ cS cA q f a, (List.forall_mem_cons.mpr ⟨st_k5_6_0 cI cZ cS cA q f a, (List.forall_mem_cons.mpr ⟨st_k5_7_0 cI cZ cS cA q f a, (List.forall_mem_cons.mpr ⟨st_k5_8_0 cI cZ cS cA q f a, (List.forall_mem_cons.mpr ⟨st_k5_7_1 cI cZ cS cA q f a, (List.forall_mem_cons.mpr ⟨st_k5_8_1 cI cZ cS cA q f a, (List.forall_mem_cons.mpr ⟨st_k5_7_2 cI cZ cS cA q f a, (List.forall_mem_cons.mpr ⟨st_k5_8_2 cI cZ cS cA q f a, (List.forall_mem_cons.mpr ⟨st_k5_9_0 cI cZ cS cA q f a, (List.forall_mem_cons.mpr ⟨st_k5_10_0 cI cZ cS cA q f a, (List.forall_mem_cons.mpr ⟨st_k5_11_0 cI cZ cS cA q f a, (List.forall_mem_cons.mpr ⟨st_k5_12_0 cI cZ cS cA q f a, (List.forall_mem_cons.mpr ⟨st_k5_13_0 cI cZ cS cA q f a, (List.forall_mem_cons.mpr ⟨st_k5_14_0 cI cZ cS cA q f a, (List.forall_mem_cons.mpr ⟨st_k5_9_1 cI cZ cS cA q f a, (List.forall_mem_cons.mpr ⟨st_k5_10_1 cI cZ cS cA q f a, (List.forall_mem_cons.mpr ⟨st_k5_11_1 cI cZ cS cA q f a, (List.forall_mem_cons.mpr ⟨st_k5_12_1 cI cZ cS cA q f a, (List.forall_mem_cons.mpr ⟨st_k5_13_1 cI cZ cS cA q f a, (List.forall_mem_cons.mpr ⟨st_k5_14_1 cI cZ cS cA q f a, (List.forall_mem_cons.mpr ⟨st_k5_9_2 cI cZ cS cA q f a, (List.forall_mem_cons.mpr ⟨st_k5_10_2 cI cZ cS cA q f a, (List.forall_mem_cons.mpr ⟨st_k5_11_2 cI cZ cS cA q f a, (List.forall_mem_cons.mpr ⟨st_k5_12_2 cI cZ cS cA q f a, (List.forall_mem_cons.mpr ⟨st_k5_13_2 cI cZ cS cA q f a, (List.forall_mem_cons.mpr ⟨st_k5_14_2 cI cZ cS cA q f a, (List.forall_mem_cons.mpr ⟨st_k5_9_3 cI cZ cS cA q f a, (List.forall_mem_cons.mpr ⟨st_k5_10_3 cI cZ cS cA q f a, (List.forall_mem_cons.mpr ⟨st_k5_11_3 cI cZ cS cA q f a, (List.forall_mem_cons.mpr ⟨st_k5_12_3 cI cZ cS cA q f a, (List.forall_mem_cons.mpr ⟨st_k5_13_3 cI cZ cS cA q f a, (List.forall_mem_cons.mpr ⟨st_k5_14_3 cI cZ cS cA q f a, (List.forall_mem_cons.mpr ⟨st_k5_9_4 cI cZ cS cA q f a, (List.forall_mem_cons.mpr ⟨st_k5_10_4 cI cZ cS cA q f a, (List.forall_mem_cons.mpr ⟨st_k5_11_4 cI cZ cS cA q f a, (List.forall_mem_cons.mpr ⟨st_k5_12_4 cI cZ cS cA q f a, (List.forall_mem_cons.mpr ⟨st_k5_13_4 cI cZ cS cA q f a, (List.forall_mem_cons.mpr ⟨st_k5_14_4 cI cZ cS cA q f a, (List.forall_mem_cons.mpr ⟨st_k5_9_5 cI cZ cS cA q f a, (List.forall_mem_cons.mpr ⟨st_k5_10_5 cI cZ cS cA q f a, (List.forall_mem_cons.mpr ⟨st_k5_11_5 cI cZ cS cA q f a, (List.forall_mem_cons.mpr ⟨st_k5_12_5 cI cZ cS cA q f a, (List.forall_mem_cons.mpr ⟨st_k5_13_5 cI cZ cS cA q f a, (List.forall_mem_cons.mpr ⟨st_k5_14_5 cI cZ cS cA q f a, (List.forall_mem_cons.mpr ⟨st_k5_15_0 cI cZ cS cA q f a, (List.forall_mem_cons.mpr ⟨st_k5_15_1 cI cZ cS cA q f a, (List.forall_mem_cons.mpr ⟨st_k5_15_2 cI cZ cS cA q f a, (List.forall_mem_cons.mpr ⟨st_k5_15_3 cI cZ cS cA q f a, (List.forall_mem_cons.mpr ⟨st_k5_15_4 cI cZ cS cA q f a, (List.forall_mem_cons.mpr ⟨st_k5_15_5 cI cZ cS cA q f a, (List.forall_mem_cons.mpr ⟨st_k5_15_6 cI cZ cS cA q f a, (List.forall_mem_cons.mpr ⟨st_k5_15_7 cI cZ cS cA q f a, (List.forall_mem_cons.mpr ⟨st_k5_15_8 cI cZ cS cA q f a, (List.forall_mem_cons.mpr ⟨st_k5_15_9 cI cZ cS cA q f a, (List.forall_mem_cons.mpr ⟨st_k5_15_10 cI cZ cS cA q f a, (List.forall_mem_cons.mpr ⟨st_k5_15_11 cI cZ cS cA q f a, (List.forall_mem_cons.mpr ⟨st_k5_15_12 cI cZ cS cA q f a, (List.forall_mem_cons.mpr ⟨st_k5_15_13 cI cZ cS cA q f a, (List.forall_mem_cons.mpr ⟨st_k5_15_14 cI cZ cS cA q f a, (fun _ h => absurd h List.not_mem_nil)⟩)⟩)⟩)⟩)⟩)⟩)⟩)⟩)⟩)⟩)⟩)⟩)⟩)⟩)⟩)⟩)⟩)⟩)⟩)⟩)⟩)⟩)⟩)⟩)⟩)⟩)⟩)⟩)⟩)⟩)⟩)⟩)⟩)⟩)⟩)⟩)⟩)⟩)⟩)⟩)⟩)⟩)⟩)⟩)⟩)⟩)⟩)⟩)⟩)⟩)⟩)⟩)⟩)⟩)⟩)⟩)⟩)⟩)⟩)⟩)⟩)⟩)⟩)⟩)
theorem st_c {n : Nat} (hn : 3 ≤ n ∧ n ≤ 5) (cI cZ cS cA : ClassId) (q f a : Nat) : ∀ k ∈ fb_ids n, st_ok (xe_FB cI cZ cS cA n q f a) (st_off n) (xw_M (fb_k n (st_ad n a) cI cZ cS cA) (st_M n q f)) k := by
  rcases (show n = 3 ∨ n = 4 ∨ n = 5 by omega) with rfl | rfl | rfl
  · exact st_c3 cI cZ cS cA q f a
  · exact st_c4 cI cZ cS cA q f a
  · exact st_c5 cI cZ cS cA q f a
theorem st_nd {n : Nat} (hn : 3 ≤ n ∧ n ≤ 5) : ((fb_ids n).map (st_off n)).Nodup := by
  rcases (show n = 3 ∨ n = 4 ∨ n = 5 by omega) with rfl | rfl | rfl
  · exact st_nd3
  · exact st_nd4
  · exact st_nd5
theorem st_lt {n : Nat} (hn : 3 ≤ n ∧ n ≤ 5) : ∀ k ∈ fb_ids n, st_off n k < 7 + 3 * (14 + n) := by
  rcases (show n = 3 ∨ n = 4 ∨ n = 5 by omega) with rfl | rfl | rfl
  · exact st_lt3
  · exact st_lt4
  · exact st_lt5
theorem st_nd2 : (gm_ids.map st_of2).Nodup := by decide +kernel
theorem st_lt2 : ∀ k ∈ gm_ids, st_of2 k < 23 := by decide +kernel
theorem st_m0 (cI cZ : ClassId) (n q f a : Nat) : st_ok (xe_Mod cI cZ n q f a) st_of2 (xw_M (gm_k (st_ad2 a) cI cZ) (st_N n q f)) (0, 0) := ⟨_, rfl, st_rf rfl⟩
theorem st_m3 (cI cZ : ClassId) (n q f a : Nat) : st_ok (xe_Mod cI cZ n q f a) st_of2 (xw_M (gm_k (st_ad2 a) cI cZ) (st_N n q f)) (3, 0) := ⟨_, rfl, st_in (fun _ _ => rfl)⟩
theorem st_m6 (cI cZ : ClassId) (n q f a : Nat) : st_ok (xe_Mod cI cZ n q f a) st_of2 (xw_M (gm_k (st_ad2 a) cI cZ) (st_N n q f)) (6, 0) := ⟨_, rfl, st_in (fun _ _ => rfl)⟩
theorem st_m7 (cI cZ : ClassId) (n q f a : Nat) : st_ok (xe_Mod cI cZ n q f a) st_of2 (xw_M (gm_k (st_ad2 a) cI cZ) (st_N n q f)) (7, 0) := ⟨_, rfl, st_in (fun _ _ => rfl)⟩
theorem st_m8 (cI cZ : ClassId) (n q f a : Nat) : st_ok (xe_Mod cI cZ n q f a) st_of2 (xw_M (gm_k (st_ad2 a) cI cZ) (st_N n q f)) (8, 0) := ⟨_, rfl, st_in (fun _ _ => rfl)⟩
theorem st_m9 (cI cZ : ClassId) (n q f a : Nat) : st_ok (xe_Mod cI cZ n q f a) st_of2 (xw_M (gm_k (st_ad2 a) cI cZ) (st_N n q f)) (9, 0) := ⟨_, rfl, st_in (fun _ _ => rfl)⟩
theorem st_m10 (cI cZ : ClassId) (n q f a : Nat) : st_ok (xe_Mod cI cZ n q f a) st_of2 (xw_M (gm_k (st_ad2 a) cI cZ) (st_N n q f)) (10, 0) := ⟨_, rfl, st_in (fun _ _ => rfl)⟩
theorem st_m11 (cI cZ : ClassId) (n q f a : Nat) : st_ok (xe_Mod cI cZ n q f a) st_of2 (xw_M (gm_k (st_ad2 a) cI cZ) (st_N n q f)) (11, 0) := ⟨_, rfl, st_in (fun _ _ => rfl)⟩
theorem st_m12 (cI cZ : ClassId) (n q f a : Nat) : st_ok (xe_Mod cI cZ n q f a) st_of2 (xw_M (gm_k (st_ad2 a) cI cZ) (st_N n q f)) (12, 0) := ⟨_, rfl, st_in (fun _ _ => rfl)⟩
theorem st_m13 (cI cZ : ClassId) (n q f a : Nat) : st_ok (xe_Mod cI cZ n q f a) st_of2 (xw_M (gm_k (st_ad2 a) cI cZ) (st_N n q f)) (13, 0) := ⟨_, rfl, st_in (fun _ _ => rfl)⟩
theorem st_m14 (cI cZ : ClassId) (n q f a : Nat) : st_ok (xe_Mod cI cZ n q f a) st_of2 (xw_M (gm_k (st_ad2 a) cI cZ) (st_N n q f)) (14, 0) := ⟨_, rfl, st_in (fun _ _ => rfl)⟩
theorem st_m15 (cI cZ : ClassId) (n q f a : Nat) : st_ok (xe_Mod cI cZ n q f a) st_of2 (xw_M (gm_k (st_ad2 a) cI cZ) (st_N n q f)) (15, 0) := ⟨_, rfl, st_in (fun _ _ => rfl)⟩
theorem st_m16 (cI cZ : ClassId) (n q f a : Nat) : st_ok (xe_Mod cI cZ n q f a) st_of2 (xw_M (gm_k (st_ad2 a) cI cZ) (st_N n q f)) (16, 0) := ⟨_, rfl, st_in (fun _ _ => rfl)⟩
theorem st_m17 (cI cZ : ClassId) (n q f a : Nat) : st_ok (xe_Mod cI cZ n q f a) st_of2 (xw_M (gm_k (st_ad2 a) cI cZ) (st_N n q f)) (17, 0) := ⟨_, rfl, st_in (fun _ _ => rfl)⟩
theorem st_m18 (cI cZ : ClassId) (n q f a : Nat) : st_ok (xe_Mod cI cZ n q f a) st_of2 (xw_M (gm_k (st_ad2 a) cI cZ) (st_N n q f)) (18, 0) := ⟨_, rfl, st_in (fun _ _ => rfl)⟩
theorem st_m19 (cI cZ : ClassId) (n q f a : Nat) : st_ok (xe_Mod cI cZ n q f a) st_of2 (xw_M (gm_k (st_ad2 a) cI cZ) (st_N n q f)) (19, 0) := ⟨_, rfl, st_in (fun _ _ => rfl)⟩
theorem st_m20 (cI cZ : ClassId) (n q f a : Nat) : st_ok (xe_Mod cI cZ n q f a) st_of2 (xw_M (gm_k (st_ad2 a) cI cZ) (st_N n q f)) (20, 0) := ⟨_, rfl, st_in (fun _ _ => rfl)⟩
theorem st_m21 (cI cZ : ClassId) (n q f a : Nat) : st_ok (xe_Mod cI cZ n q f a) st_of2 (xw_M (gm_k (st_ad2 a) cI cZ) (st_N n q f)) (21, 0) := ⟨_, rfl, st_in (fun _ _ => rfl)⟩
theorem st_m22 (cI cZ : ClassId) (n q f a : Nat) : st_ok (xe_Mod cI cZ n q f a) st_of2 (xw_M (gm_k (st_ad2 a) cI cZ) (st_N n q f)) (22, 0) := ⟨_, rfl, st_in (fun _ _ => rfl)⟩
theorem st_m23 (cI cZ : ClassId) (n q f a : Nat) : st_ok (xe_Mod cI cZ n q f a) st_of2 (xw_M (gm_k (st_ad2 a) cI cZ) (st_N n q f)) (23, 0) := ⟨_, rfl, st_in (fun _ _ => rfl)⟩
theorem st_m24 (cI cZ : ClassId) (n q f a : Nat) : st_ok (xe_Mod cI cZ n q f a) st_of2 (xw_M (gm_k (st_ad2 a) cI cZ) (st_N n q f)) (24, 0) := ⟨_, rfl, st_in (fun _ _ => rfl)⟩
theorem st_m25 (cI cZ : ClassId) (n q f a : Nat) : st_ok (xe_Mod cI cZ n q f a) st_of2 (xw_M (gm_k (st_ad2 a) cI cZ) (st_N n q f)) (25, 0) := ⟨_, rfl, st_in (fun _ _ => rfl)⟩
theorem st_m26 (cI cZ : ClassId) (n q f a : Nat) : st_ok (xe_Mod cI cZ n q f a) st_of2 (xw_M (gm_k (st_ad2 a) cI cZ) (st_N n q f)) (26, 0) := ⟨_, rfl, st_in (fun _ _ => rfl)⟩
theorem st_c2 (cI cZ : ClassId) (n q f a : Nat) : ∀ k ∈ gm_ids, st_ok (xe_Mod cI cZ n q f a) st_of2 (xw_M (gm_k (st_ad2 a) cI cZ) (st_N n q f)) k := by
  exact (List.forall_mem_cons.mpr ⟨st_m0 cI cZ n q f a, (List.forall_mem_cons.mpr ⟨st_m3 cI cZ n q f a, (List.forall_mem_cons.mpr ⟨st_m6 cI cZ n q f a, (List.forall_mem_cons.mpr ⟨st_m7 cI cZ n q f a, (List.forall_mem_cons.mpr ⟨st_m8 cI cZ n q f a, (List.forall_mem_cons.mpr ⟨st_m9 cI cZ n q f a, (List.forall_mem_cons.mpr ⟨st_m10 cI cZ n q f a, (List.forall_mem_cons.mpr ⟨st_m11 cI cZ n q f a, (List.forall_mem_cons.mpr ⟨st_m12 cI cZ n q f a, (List.forall_mem_cons.mpr ⟨st_m13 cI cZ n q f a, (List.forall_mem_cons.mpr ⟨st_m14 cI cZ n q f a, (List.forall_mem_cons.mpr ⟨st_m15 cI cZ n q f a, (List.forall_mem_cons.mpr ⟨st_m16 cI cZ n q f a, (List.forall_mem_cons.mpr ⟨st_m17 cI cZ n q f a, (List.forall_mem_cons.mpr ⟨st_m18 cI cZ n q f a, (List.forall_mem_cons.mpr ⟨st_m19 cI cZ n q f a, (List.forall_mem_cons.mpr ⟨st_m20 cI cZ n q f a, (List.forall_mem_cons.mpr ⟨st_m21 cI cZ n q f a, (List.forall_mem_cons.mpr ⟨st_m22 cI cZ n q f a, (List.forall_mem_cons.mpr ⟨st_m23 cI cZ n q f a, (List.forall_mem_cons.mpr ⟨st_m24 cI cZ n q f a, (List.forall_mem_cons.mpr ⟨st_m25 cI cZ n q f a, (List.forall_mem_cons.mpr ⟨st_m26 cI cZ n q f a, (fun _ h => absurd h List.not_mem_nil)⟩)⟩)⟩)⟩)⟩)⟩)⟩)⟩)⟩)⟩)⟩)⟩)⟩)⟩)⟩)⟩)⟩)⟩)⟩)⟩)⟩)⟩)⟩)
theorem st_len (cI cZ cS cA : ClassId) (n q f a : Nat) : (xe_FB cI cZ cS cA n q f a).length = 7 + 3 * (14 + n) := by unfold xe_FB; rw [List.length_append, xe_FSl]; rfl
