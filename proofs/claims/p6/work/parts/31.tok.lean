/-! PLACES OF TOKENS, LENGTHS OF CODES -/
theorem t_run_ge {P : Int32 → Bool} {f : Nat → Int32} {n : Nat} : ∀ k p : Nat, p ≤ t_run P f n k p
  | 0, p => Nat.le_refl p
  | k + 1, p => by
    unfold t_run
    split
    · exact Nat.le_trans (Nat.le_succ p) (t_run_ge k (p + 1))
    · exact Nat.le_refl p
theorem t_run_le {P : Int32 → Bool} {f : Nat → Int32} {n : Nat} : ∀ k p : Nat, p ≤ n → t_run P f n k p ≤ n
  | 0, p, h => h
  | k + 1, p, h => by
    unfold t_run
    split
    · next q => exact t_run_le k (p + 1) q.1
    · exact h
theorem t_run_stop {P : Int32 → Bool} {f : Nat → Int32} {n : Nat} : ∀ k p : Nat, n ≤ p + k → ¬ (t_run P f n k p < n ∧ P (f (t_run P f n k p)) = true)
  | 0, p, h => fun q => by have : p < n := q.1; omega
  | k + 1, p, h => by
    unfold t_run
    split
    · exact t_run_stop k (p + 1) (by omega)
    · next q => exact q
theorem t_end_ge (P : Int32 → Bool) (f : Nat → Int32) (n p : Nat) : p ≤ t_end P f n p := t_run_ge _ _
theorem t_end_le {P : Int32 → Bool} {f : Nat → Int32} {n p : Nat} (h : p ≤ n) : t_end P f n p ≤ n := t_run_le _ _ h
theorem t_end_stop (P : Int32 → Bool) (f : Nat → Int32) (n p : Nat) : ¬ (t_end P f n p < n ∧ P (f (t_end P f n p)) = true) := t_run_stop _ _ (by omega)
theorem t_end_step {P : Int32 → Bool} {f : Nat → Int32} {n p : Nat} (h : p < n) (hp : P (f p) = true) : t_end P f n p = t_end P f n (p + 1) := by
  unfold t_end
  rw [show n - p = (n - (p + 1)) + 1 by omega, t_run, if_pos ⟨h, hp⟩]
theorem t_end_here {P : Int32 → Bool} {f : Nat → Int32} {n p : Nat} (h : ¬ (p < n ∧ P (f p) = true)) : t_end P f n p = p := by
  unfold t_end
  cases hk : n - p with
  | zero => rfl
  | succ k => rw [t_run, if_neg h]
section
variable {f : Nat → Int32} {n : Nat}
theorem t_s_ge (p : Nat) : p ≤ t_s f n p := t_end_ge _ _ _ _
theorem t_s_le {p : Nat} (h : p ≤ n) : t_s f n p ≤ n := t_end_le h
theorem t_e_ge (p : Nat) : t_s f n p ≤ t_e f n p := by
  unfold t_e
  split
  · exact Nat.le_refl _
  · split
    · exact t_end_ge _ _ _ _
    · split
      · exact t_end_ge _ _ _ _
      · omega
theorem t_e_le {p : Nat} (h : p ≤ n) : t_e f n p ≤ n := by
  have hs := t_s_le (f := f) h
  unfold t_e
  split
  · exact hs
  · next q =>
    split
    · exact t_end_le hs
    · split
      · exact t_end_le hs
      · omega
theorem t_e_gt {p : Nat} (h : t_s f n p < n) : t_s f n p < t_e f n p := by
  unfold t_e
  rw [if_neg (by omega)]
  split
  · next q => rw [t_end_step h q]; exact Nat.lt_of_lt_of_le (Nat.lt_succ_self _) (t_end_ge _ _ _ _)
  · split
    · next q => rw [t_end_step h q]; exact Nat.lt_of_lt_of_le (Nat.lt_succ_self _) (t_end_ge _ _ _ _)
    · omega
theorem t_k_in {p : Nat} (h : t_k f n p ≠ 0) : t_s f n p < n := by
  rcases Nat.lt_or_ge (t_s f n p) n with q | q
  · exact q
  · exact absurd (by unfold t_k; rw [if_pos q]) h
theorem t_k_gt {p : Nat} (h : t_k f n p ≠ 0) : t_s f n p < t_e f n p := t_e_gt (t_k_in h)
/-- a part that stood there: its code is no longer than its bytes -/
def p_ok (f : Nat → Int32) (n : Nat) (item : Nat → PR) : Prop := ∀ p, p ≤ n → ∀ q, item p = .inl q → q.1.length + t_s f n p ≤ q.2 ∧ q.2 ≤ n
theorem p_loop_ok {sep : Nat → Option Int32} {item : Nat → PR} (h0 : sep 0 = none) (hi : p_ok f n item) : ∀ (k : Nat) (c : List Int32) (p b : Nat), p ≤ n → c.length + b ≤ p → ∀ q, p_loop f n sep item k c p = .inl q → q.1.length + b ≤ q.2 ∧ q.2 ≤ n
  | 0, c, p, b, hp, hc, q, h => by cases h; exact ⟨hc, hp⟩
  | k + 1, c, p, b, hp, hc, q, h => by
    unfold p_loop at h
    split at h
    · cases h; exact ⟨hc, hp⟩
    · next op hop =>
      have hk : t_k f n p ≠ 0 := fun z => by rw [z, h0] at hop; cases hop
      have hgt := t_k_gt hk
      have hge := t_s_ge (f := f) (n := n) p
      split at h
      · cases h
      · next q2 h2 =>
        have hj := hi _ (t_e_le hp) q2 h2
        have hg2 := t_s_ge (f := f) (n := n) (t_e f n p)
        exact p_loop_ok h0 hi k _ _ b hj.2 (by simp only [List.length_append, List.length_cons, List.length_nil]; omega) q h
theorem p_ch_ok {sep : Nat → Option Int32} {item : Nat → PR} (h0 : sep 0 = none) (hi : p_ok f n item) : p_ok f n (p_ch f n sep item) := by
  intro p hp q h
  unfold p_ch at h
  split at h
  · cases h
  · next q2 h2 =>
    have hj := hi p hp q2 h2
    exact p_loop_ok h0 hi _ _ _ _ hj.2 hj.1 q h
theorem p_one_ok {r : Nat} {neg par : Nat → PR} (hn : 0 < r → p_ok f n neg) (hp : 0 < r → p_ok f n par) : p_ok f n (p_one f n r neg par) := by
  intro p hpn q h
  unfold p_one at h
  split at h
  · next hk =>
    have hgt := t_k_gt (f := f) (n := n) (p := p) (by rw [hk]; decide)
    cases h
    exact ⟨by simp only [List.length_cons, List.length_nil]; omega, t_e_le hpn⟩
  · split at h
    · next hk =>
      have hgt := t_k_gt (f := f) (n := n) (p := p) (by omega)
      cases h
      exact ⟨by simp only [List.length_cons, List.length_nil]; omega, t_e_le hpn⟩
    · split at h
      · next hk =>
        have hgt := t_k_gt (f := f) (n := n) (p := p) (by omega)
        have hg2 := t_s_ge (f := f) (n := n) (t_e f n p)
        split at h
        · split at h
          · cases h
          · next q2 h2 =>
            have hj := hn hk.2 _ (t_e_le hpn) q2 h2
            cases h
            exact ⟨by simp only [List.length_append, List.length_cons, List.length_nil]; omega, hj.2⟩
        · split at h
          · cases h
          · next q2 h2 =>
            have hj := hp hk.2 _ (t_e_le hpn) q2 h2
            split at h
            · next h41 =>
              have hgt2 := t_k_gt (f := f) (n := n) (p := q2.2) (by rw [h41]; decide)
              have hg3 := t_s_ge (f := f) (n := n) q2.2
              cases h
              exact ⟨by show q2.1.length + _ ≤ _; omega, t_e_le hj.2⟩
            · cases h
      · cases h
theorem p_cmp_ok {one : Nat → PR} (ho : p_ok f n one) : p_ok f n (p_cmp f n one) := by
  have hs : p_ok f n (p_ch f n q_add (p_ch f n q_mul one)) := p_ch_ok rfl (p_ch_ok rfl ho)
  intro p hp q h
  unfold p_cmp at h
  split at h
  · cases h
  · next q1 h1 =>
    have hj := hs p hp q1 h1
    split at h
    · cases h; exact hj
    · next op hop =>
      have hk : t_k f n q1.2 ≠ 0 := fun z => by rw [z] at hop; cases hop
      have hgt := t_k_gt hk
      have hge := t_s_ge (f := f) (n := n) q1.2
      split at h
      · cases h
      · next q2 h2 =>
        have hj2 := hs _ (t_e_le hj.2) q2 h2
        have hg2 := t_s_ge (f := f) (n := n) (t_e f n q1.2)
        cases h
        exact ⟨by simp only [List.length_append, List.length_cons, List.length_nil]; omega, hj2.2⟩
theorem p_not_ok {r : Nat} {inn one : Nat → PR} (hi : 0 < r → p_ok f n inn) (ho : p_ok f n one) : p_ok f n (p_not f n r inn one) := by
  intro p hp q h
  unfold p_not at h
  split at h
  · next hk =>
    have hgt := t_k_gt (f := f) (n := n) (p := p) (by rw [hk]; decide)
    have hg2 := t_s_ge (f := f) (n := n) (t_e f n p)
    split at h
    · next hr =>
      split at h
      · cases h
      · next q2 h2 =>
        have hj := hi hr _ (t_e_le hp) q2 h2
        cases h
        exact ⟨by simp only [List.length_append, List.length_cons, List.length_nil]; omega, hj.2⟩
    · cases h
  · exact p_cmp_ok ho p hp q h
theorem p_or_ok {nt : Nat → PR} (hn : p_ok f n nt) : p_ok f n (p_or f n nt) := p_ch_ok rfl (p_ch_ok rfl hn)
theorem p_lv_ok : ∀ r : Nat, p_ok f n (p_lv f n r).1 ∧ p_ok f n (p_lv f n r).2.1 ∧ p_ok f n (p_lv f n r).2.2
  | 0 => by
    have h1 : p_ok f n (p_one f n 0 p_no p_no) := p_one_ok (fun h => absurd h (Nat.lt_irrefl 0)) (fun h => absurd h (Nat.lt_irrefl 0))
    have h2 : p_ok f n (p_not f n 0 p_no (p_one f n 0 p_no p_no)) := p_not_ok (fun h => absurd h (Nat.lt_irrefl 0)) h1
    exact ⟨h1, h2, p_or_ok h2⟩
  | r + 1 => by
    obtain ⟨a1, a2, a3⟩ := p_lv_ok r
    have h1 := p_one_ok (f := f) (n := n) (r := r + 1) (fun _ => a1) (fun _ => a3)
    have h2 := p_not_ok (r := r + 1) (fun _ => a2) h1
    exact ⟨h1, h2, p_or_ok h2⟩
end
