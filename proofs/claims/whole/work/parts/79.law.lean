/-! THE LAW: call by call, from its start to its end -/
def OKL (z : Option (Int32 × Mem)) : Prop := ∃ S1, z = some (1, S1)
theorem OKL_if {c : Prop} [Decidable c] {a b : Option (Int32 × Mem)} (h : c → OKL a) (h' : ¬ c → OKL b) : OKL (if c then a else b) := by
  by_cases q : c
  · rw [if_pos q]; exact h q
  · rw [if_neg q]; exact h' q
theorem OKL_in {c : Prop} [Decidable c] {a b : Option (Int32 × Mem)} (q : c) (h : OKL a) : OKL (if c then a else b) := by
  rw [if_pos q]; exact h
theorem OKL_I {c : Nat} {S : Mem} {T M : Mem → Option (Int32 × Mem)} (h : CAL c S T M) {G G' : Mem → Option (Int32 × Mem)} (eT : ∀ S q, T S = some q → G S = some q) (eM : ∀ S q, M S = some q → G' S = some q) {K : Mem → Option (Int32 × Mem)} {cont : Int32 → Mem → Option (Int32 × Mem)} (hc : ∀ r S', cont r S' = bI (G' S') (fun r' S'' => if r = r' then K S'' else some (0, S''))) (hK : ∀ D S'', Inv (c + 1) D S'' → OKL (K S'')) : OKL (bI (G S) cont) := by
  obtain ⟨r, S1, S2, D', e1, e2, hI⟩ := h
  rw [eT _ _ e1, bI_s, hc, eM _ _ e2, bI_s, if_pos rfl]
  exact hK D' S2 hI
theorem lgc (x : Int64) : lg_cmp x x = 0 := by
  unfold lg_cmp
  rw [if_neg (Int64.lt_irrefl), if_pos rfl]
theorem OKL_J {c : Nat} {S : Mem} {T M : Mem → Option (Int64 × Mem)} (h : CALJ c S T M) {G G' : Mem → Option (Int64 × Mem)} (eT : ∀ S q, T S = some q → G S = some q) (eM : ∀ S q, M S = some q → G' S = some q) {K : Mem → Option (Int32 × Mem)} {cont : Int64 → Mem → Option (Int32 × Mem)} (hc : ∀ r S', cont r S' = bJ (G' S') (fun r' S'' => if lg_cmp r r' = 0 then K S'' else some (0, S''))) (hK : ∀ D S'', Inv (c + 1) D S'' → OKL (K S'')) : OKL (bJ (G S) cont) := by
  obtain ⟨r, S1, S2, D', e1, e2, hI⟩ := h
  rw [eT _ _ e1, bJ_s, hc, eM _ _ e2, bJ_s, if_pos (lgc r)]
  exact hK D' S2 hI
theorem Inv_up {c : Nat} {D : DD} {S : Mem} (h : Inv c D S) (hc : c < 512) : Inv (c + 1) D S := ⟨h.1, h.2.1, h.2.2.1, Nat.le_succ_of_le h.2.2.2.1, h.2.2.2.2.1, hc⟩
set_option maxHeartbeats 4000000 in
theorem law_one {X : mX} (hX : ¬ X.1 = 0) {c i : Nat} {D : DD} {S : Mem} (h : Inv c D S) (hc : c < 512) (hi : i + 5 ≤ X.1 - 1) (hL : X.1 ≤ 2561) (hK : ∀ D S'', Inv (c + 1) D S'' → OKL (k_Law_law_834 X (nI i) S'')) : OKL (k_Law_law_18 X (nI i) S) := by
  have i0 : inb (nI i) (X.1 - 1) = true := by rw [zin (by omega)]; omega
  have i1 : inb (nI i + 1) (X.1 - 1) = true := by rw [show (1 : Int32) = nI 1 from rfl, zadd, zin (by omega)]; omega
  have i2 : inb (nI i + 2) (X.1 - 1) = true := by rw [show (2 : Int32) = nI 2 from rfl, zadd, zin (by omega)]; omega
  have i3 : inb (nI i + 3) (X.1 - 1) = true := by rw [show (3 : Int32) = nI 3 from rfl, zadd, zin (by omega)]; omega
  have i4 : inb (nI i + 4) (X.1 - 1) = true := by rw [show (4 : Int32) = nI 4 from rfl, zadd, zin (by omega)]; omega
  rw [k_Law_law_18_eq X hX, if_neg (by
    show ¬ (nI (X.1 - 1) - nI 5 < nI i)
    rw [zsub (by omega), zlt (by omega) (by omega)]
    omega)]
  refine OKL_in i0 ?_
  refine OKL_if (fun _ => OKL_in i1 (OKL_in i2 (OKL_I (ask_letters h hc ((((X.2 (nI i + 1).toNatClampNeg).toInt64) <<< ((32 : Int32).toInt64 &&& 63)) ||| (((X.2 (nI i + 2).toNatClampNeg).toInt64) &&& 4294967295))) (fun S q e => gI_ok (X := X) e) (fun S q e => gI_ok (X := X) e) (fun r S' => ((if_pos i1).trans (if_pos i2))) hK))) (fun _ => ?_)
  refine OKL_if (fun _ => OKL_I (ask_blank h hc) (fun S q e => gI_ok (X := X) e) (fun S q e => gI_ok (X := X) e) (fun r S' => rfl) hK) (fun _ => ?_)
  refine OKL_if (fun _ => OKL_in i1 (OKL_I (ask_fault h hc (X.2 (nI i + 1).toNatClampNeg)) (fun S q e => gI_ok (X := X) e) (fun S q e => gI_ok (X := X) e) (fun r S' => (if_pos i1)) hK)) (fun _ => ?_)
  refine OKL_if (fun _ => OKL_I (ask_net h hc) (fun S q e => gI_ok (X := X) e) (fun S q e => gI_ok (X := X) e) (fun r S' => rfl) hK) (fun _ => ?_)
  refine OKL_if (fun _ => OKL_in i1 (OKL_in i2 (OKL_I (ask_lane h hc (X.2 (nI i + 1).toNatClampNeg) (X.2 (nI i + 2).toNatClampNeg)) (fun S q e => gI_ok (X := X) e) (fun S q e => gI_ok (X := X) e) (fun r S' => ((if_pos i1).trans (if_pos i2))) hK))) (fun _ => ?_)
  refine OKL_if (fun _ => OKL_in i1 (OKL_in i2 (OKL_in i3 (OKL_in i4 (OKL_I (ask_walker h hc (X.2 (nI i + 1).toNatClampNeg) (X.2 (nI i + 2).toNatClampNeg) (X.2 (nI i + 3).toNatClampNeg) (X.2 (nI i + 4).toNatClampNeg)) (fun S q e => gI_ok (X := X) e) (fun S q e => gI_ok (X := X) e) (fun r S' => ((if_pos i1).trans ((if_pos i2).trans ((if_pos i3).trans (if_pos i4))))) hK))))) (fun _ => ?_)
  refine OKL_if (fun _ => OKL_in i1 (OKL_in i2 (OKL_I (ask_about h hc (X.2 (nI i + 1).toNatClampNeg) (X.2 (nI i + 2).toNatClampNeg)) (fun S q e => gI_ok (X := X) e) (fun S q e => gI_ok (X := X) e) (fun r S' => ((if_pos i1).trans (if_pos i2))) hK))) (fun _ => ?_)
  refine OKL_if (fun _ => OKL_in i1 (OKL_in i2 (OKL_I (ask_as h hc (X.2 (nI i + 1).toNatClampNeg) (X.2 (nI i + 2).toNatClampNeg)) (fun S q e => gI_ok (X := X) e) (fun S q e => gI_ok (X := X) e) (fun r S' => ((if_pos i1).trans (if_pos i2))) hK))) (fun _ => ?_)
  refine OKL_if (fun _ => OKL_in i1 (OKL_I (ask_way h hc (X.2 (nI i + 1).toNatClampNeg)) (fun S q e => gI_ok (X := X) e) (fun S q e => gI_ok (X := X) e) (fun r S' => (if_pos i1)) hK)) (fun _ => ?_)
  refine OKL_if (fun _ => OKL_in i1 (OKL_in i2 (OKL_I (ask_load h hc (X.2 (nI i + 1).toNatClampNeg) (X.2 (nI i + 2).toNatClampNeg)) (fun S q e => gI_ok (X := X) e) (fun S q e => gI_ok (X := X) e) (fun r S' => ((if_pos i1).trans (if_pos i2))) hK))) (fun _ => ?_)
  refine OKL_if (fun _ => OKL_in i1 (OKL_in i2 (OKL_I (ask_pass h hc (X.2 (nI i + 1).toNatClampNeg) (X.2 (nI i + 2).toNatClampNeg)) (fun S q e => gI_ok (X := X) e) (fun S q e => gI_ok (X := X) e) (fun r S' => ((if_pos i1).trans (if_pos i2))) hK))) (fun _ => ?_)
  refine OKL_if (fun _ => OKL_in i1 (OKL_in i2 (OKL_I (ask_heap h hc (X.2 (nI i + 1).toNatClampNeg) (X.2 (nI i + 2).toNatClampNeg)) (fun S q e => gI_ok (X := X) e) (fun S q e => gI_ok (X := X) e) (fun r S' => ((if_pos i1).trans (if_pos i2))) hK))) (fun _ => ?_)
  refine OKL_if (fun _ => OKL_in i1 (OKL_in i2 (OKL_I (ask_take h hc (X.2 (nI i + 1).toNatClampNeg) (X.2 (nI i + 2).toNatClampNeg)) (fun S q e => gI_ok (X := X) e) (fun S q e => gI_ok (X := X) e) (fun r S' => ((if_pos i1).trans (if_pos i2))) hK))) (fun _ => ?_)
  refine OKL_if (fun _ => OKL_in i1 (OKL_I (ask_minutes h hc (X.2 (nI i + 1).toNatClampNeg)) (fun S q e => gI_ok (X := X) e) (fun S q e => gI_ok (X := X) e) (fun r S' => (if_pos i1)) hK)) (fun _ => ?_)
  refine OKL_if (fun _ => OKL_in i1 (OKL_I (ask_first h hc (X.2 (nI i + 1).toNatClampNeg)) (fun S q e => gI_ok (X := X) e) (fun S q e => gI_ok (X := X) e) (fun r S' => (if_pos i1)) hK)) (fun _ => ?_)
  refine OKL_if (fun _ => OKL_in i1 (OKL_I (ask_soonest h hc (X.2 (nI i + 1).toNatClampNeg)) (fun S q e => gI_ok (X := X) e) (fun S q e => gI_ok (X := X) e) (fun r S' => (if_pos i1)) hK)) (fun _ => ?_)
  refine OKL_if (fun _ => OKL_in i1 (OKL_I (ask_wider h hc (X.2 (nI i + 1).toNatClampNeg)) (fun S q e => gI_ok (X := X) e) (fun S q e => gI_ok (X := X) e) (fun r S' => (if_pos i1)) hK)) (fun _ => ?_)
  refine OKL_if (fun _ => OKL_in i1 (OKL_I (ask_enough h hc (X.2 (nI i + 1).toNatClampNeg)) (fun S q e => gI_ok (X := X) e) (fun S q e => gI_ok (X := X) e) (fun r S' => (if_pos i1)) hK)) (fun _ => ?_)
  refine OKL_if (fun _ => OKL_in i1 (OKL_I (ask_fits h hc (X.2 (nI i + 1).toNatClampNeg)) (fun S q e => gI_ok (X := X) e) (fun S q e => gI_ok (X := X) e) (fun r S' => (if_pos i1)) hK)) (fun _ => ?_)
  refine OKL_if (fun _ => OKL_in i1 (OKL_in i2 (OKL_I (ask_sure h hc (X.2 (nI i + 1).toNatClampNeg) (X.2 (nI i + 2).toNatClampNeg)) (fun S q e => gI_ok (X := X) e) (fun S q e => gI_ok (X := X) e) (fun r S' => ((if_pos i1).trans (if_pos i2))) hK))) (fun _ => ?_)
  refine OKL_if (fun _ => OKL_in i1 (OKL_in i2 (OKL_in i3 (OKL_I (ask_crowd h hc (X.2 (nI i + 1).toNatClampNeg) (X.2 (nI i + 2).toNatClampNeg) (X.2 (nI i + 3).toNatClampNeg)) (fun S q e => gI_ok (X := X) e) (fun S q e => gI_ok (X := X) e) (fun r S' => ((if_pos i1).trans ((if_pos i2).trans (if_pos i3)))) hK)))) (fun _ => ?_)
  refine OKL_if (fun _ => OKL_I (ask_image h hc) (fun S q e => gI_ok (X := X) e) (fun S q e => gI_ok (X := X) e) (fun r S' => rfl) hK) (fun _ => ?_)
  refine OKL_if (fun _ => OKL_I (ask_restore h hc) (fun S q e => gI_ok (X := X) e) (fun S q e => gI_ok (X := X) e) (fun r S' => rfl) hK) (fun _ => ?_)
  refine OKL_if (fun _ => OKL_in i1 (OKL_I (ask_count h hc (X.2 (nI i + 1).toNatClampNeg)) (fun S q e => gI_ok (X := X) e) (fun S q e => gI_ok (X := X) e) (fun r S' => (if_pos i1)) hK)) (fun _ => ?_)
  refine OKL_if (fun _ => OKL_J (ask_digest h hc) (fun S q e => gJ_ok (X := X) e) (fun S q e => gJ_ok (X := X) e) (fun r S' => rfl) hK) (fun _ => ?_)
  exact hK D S (Inv_up h hc)
theorem law_end {L i : Nat} (hL : L ≤ 2560) (hi : i ≤ 100000) (h : L < i + 5) : nI L - nI 5 < nI i := by
  by_cases c : 5 ≤ L
  · rw [zsub c, zlt (by omega) (by omega)]; omega
  · have e : nI L - nI 5 < nI 0 := by
      match L, c with
      | 0, _ => decide
      | 1, _ => decide
      | 2, _ => decide
      | 3, _ => decide
      | 4, _ => decide
      | n + 5, c => omega
    rw [zn_lt e (by omega)]
    trivial
theorem law_all {X : mX} (hX : ¬ X.1 = 0) (hL : X.1 ≤ 2561) : ∀ m c S D, c + m = 512 → Inv c D S → OKL (k_Law_law_18 X (nI (5 * c)) S) := by
  intro m
  induction m with
  | zero =>
    intro c S D hm h
    refine ⟨S, ?_⟩
    rw [k_Law_law_18_eq X hX, if_pos]
    show nI (X.1 - 1) - nI 5 < nI (5 * c)
    exact law_end (by omega) (by omega) (by omega)
  | succ m ih =>
    intro c S D hm h
    by_cases hi : 5 * c + 5 ≤ X.1 - 1
    · refine law_one hX h (by omega) hi hL (fun D' S2 h2 => ?_)
      have := ih (c + 1) S2 D' (by omega) h2
      rw [k_Law_law_834_eq X hX, show (5 : Int32) = nI 5 from rfl, zadd]
      exact this
    · refine ⟨S, ?_⟩
      rw [k_Law_law_18_eq X hX, if_pos]
      show nI (X.1 - 1) - nI 5 < nI (5 * c)
      exact law_end (by omega) (by omega) (by omega)
theorem runs_law : RunsLaw := runs_of (fun X h1 h2 => by
  obtain ⟨D, h⟩ := Inv_start
  exact law_all (X := X) (by omega) h2 512 0 S0 D rfl h)
