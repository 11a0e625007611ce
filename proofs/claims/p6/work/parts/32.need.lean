/-! HOW MUCH STACK A CODE NEEDS -/
def v_chk : List Int32 → Nat → Prop
  | [], _ => True
  | x :: c, h => (v_jn x ≤ h ∧ h - v_jn x < 40) ∧ v_chk c (h - v_jn x + 1)
def v_fin : List Int32 → Nat → Nat
  | [], h => h
  | x :: c, h => v_fin c (h - v_jn x + 1)
theorem chk_app : ∀ (a b : List Int32) (h : Nat), v_chk a h → v_chk b (v_fin a h) → v_chk (a ++ b) h
  | [], _, _, _, h2 => h2
  | x :: a, b, h, h1, h2 => ⟨h1.1, chk_app a b _ h1.2 h2⟩
theorem fin_app : ∀ (a b : List Int32) (h : Nat), v_fin (a ++ b) h = v_fin b (v_fin a h)
  | [], _, _ => rfl
  | x :: a, b, h => fin_app a b (h - v_jn x + 1)
def v_nd (k : Nat) (c : List Int32) : Prop := ∀ h, h + k ≤ 40 → v_chk c h ∧ v_fin c h = h + 1
theorem nd_weak {k k2 : Nat} {c : List Int32} (h : v_nd k c) (hk : k ≤ k2) : v_nd k2 c := fun x hx => h x (by omega)
theorem nd_one {x : Int32} (hx : v_jn x = 0) : v_nd 1 [x] := fun h hh => ⟨⟨by rw [hx]; omega, True.intro⟩, by show h - v_jn x + 1 = _; rw [hx]; omega⟩
theorem nd_un {k : Nat} {c : List Int32} {x : Int32} (hc : v_nd k c) (hx : v_jn x = 1) (hk : 1 ≤ k) : v_nd k (c ++ [x]) := fun h hh => by
  obtain ⟨h1, h2⟩ := hc h hh
  refine ⟨chk_app _ _ _ h1 ?_, ?_⟩
  · rw [h2]; exact ⟨by rw [hx]; omega, True.intro⟩
  · rw [fin_app, h2]; show h + 1 - v_jn x + 1 = _; rw [hx]; omega
theorem nd_two {k j : Nat} {c c2 : List Int32} {x : Int32} (hc : v_nd k c) (hc2 : v_nd j c2) (hx : v_jn x = 2) (hk : j + 1 ≤ k) (hj : 1 ≤ j) : v_nd k (c ++ c2 ++ [x]) := fun h hh => by
  obtain ⟨h1, h2⟩ := hc h hh
  obtain ⟨h3, h4⟩ := hc2 (h + 1) (by omega)
  refine ⟨chk_app _ _ _ (chk_app _ _ _ h1 (by rw [h2]; exact h3)) ?_, ?_⟩
  · rw [fin_app, h2, h4]; exact ⟨by rw [hx]; omega, True.intro⟩
  · rw [fin_app, fin_app, h2, h4]; show h + 1 + 1 - v_jn x + 1 = _; rw [hx]; omega
section
variable {f : Nat → Int32} {n : Nat}
def p_nd (k : Nat) (item : Nat → PR) : Prop := ∀ p q, item p = .inl q → v_nd k q.1
theorem p_loop_nd {sep : Nat → Option Int32} {item : Nat → PR} {j : Nat} (hj : 1 ≤ j) (hs : ∀ t op, sep t = some op → v_jn op = 2) (hi : p_nd j item) : ∀ (k : Nat) (c : List Int32) (p : Nat), v_nd (j + 1) c → ∀ q, p_loop f n sep item k c p = .inl q → v_nd (j + 1) q.1
  | 0, c, p, hc, q, h => by cases h; exact hc
  | k + 1, c, p, hc, q, h => by
    unfold p_loop at h
    split at h
    · cases h; exact hc
    · next op hop =>
      split at h
      · cases h
      · next q2 h2 => exact p_loop_nd hj hs hi k _ _ (nd_two hc (hi _ q2 h2) (hs _ _ hop) (Nat.le_refl _) hj) q h
theorem p_ch_nd {sep : Nat → Option Int32} {item : Nat → PR} {j : Nat} (hj : 1 ≤ j) (hs : ∀ t op, sep t = some op → v_jn op = 2) (hi : p_nd j item) : p_nd (j + 1) (p_ch f n sep item) := by
  intro p q h
  unfold p_ch at h
  split at h
  · cases h
  · next q2 h2 => exact p_loop_nd hj hs hi _ _ _ (nd_weak (hi p q2 h2) (Nat.le_succ j)) q h
theorem jn_mul : ∀ t op, q_mul t = some op → v_jn op = 2 := fun t op h => by
  unfold q_mul at h; split at h <;> cases h; rfl
theorem jn_add : ∀ t op, q_add t = some op → v_jn op = 2 := fun t op h => by
  unfold q_add at h
  split at h
  · cases h; rfl
  · split at h <;> cases h; rfl
theorem jn_and : ∀ t op, q_and t = some op → v_jn op = 2 := fun t op h => by
  unfold q_and at h; split at h <;> cases h; rfl
theorem jn_or : ∀ t op, q_or t = some op → v_jn op = 2 := fun t op h => by
  unfold q_or at h; split at h <;> cases h; rfl
theorem jn_cmp : ∀ t op, q_cmp t = some op → v_jn op = 2 := fun t op h => by
  unfold q_cmp at h
  split at h
  · cases h; rfl
  · split at h <;> cases h; rfl
/-- numbers of a text aren't below 0 -/
def t_nn (f : Nat → Int32) (n : Nat) : Prop := ∀ p, t_k f n p = 2 → 0 ≤ t_v f n p
theorem jn_name : ∀ k : Nat, 3 ≤ k → k ≤ 8 → v_jn (-(nI k)) = 0 := by
  have h : ∀ k : Nat, k < 9 → 3 ≤ k → v_jn (-(nI k)) = 0 := by decide +kernel
  intro k h1 h2
  exact h k (by omega) h1
theorem p_one_nd {r k : Nat} {neg par : Nat → PR} (hf : t_nn f n) (hk : 1 ≤ k) (hn : 0 < r → p_nd k neg) (hp : 0 < r → p_nd k par) : p_nd k (p_one f n r neg par) := by
  intro p q h
  unfold p_one at h
  split at h
  · next hd =>
    cases h
    refine nd_weak (nd_one ?_) hk
    have := hf p hd
    unfold v_jn
    rw [if_pos (Int32.le_trans (by decide) this)]
  · split at h
    · next hd => cases h; exact nd_weak (nd_one (jn_name _ hd.1 hd.2)) hk
    · split at h
      · next hd =>
        split at h
        · split at h
          · cases h
          · next q2 h2 => cases h; exact nd_un (hn hd.2 _ q2 h2) rfl hk
        · split at h
          · cases h
          · next q2 h2 =>
            split at h
            · cases h; exact hp hd.2 _ q2 h2
            · cases h
      · cases h
theorem p_cmp_nd {one : Nat → PR} {k : Nat} (hk : 1 ≤ k) (ho : p_nd k one) : p_nd (k + 3) (p_cmp f n one) := by
  have hs : p_nd (k + 2) (p_ch f n q_add (p_ch f n q_mul one)) := p_ch_nd (by omega) jn_add (p_ch_nd hk jn_mul ho)
  intro p q h
  unfold p_cmp at h
  split at h
  · cases h
  · next q1 h1 =>
    split at h
    · cases h; exact nd_weak (hs p q h1) (by omega)
    · next op hop =>
      split at h
      · cases h
      · next q2 h2 => cases h; exact nd_two (nd_weak (hs p q1 h1) (by omega)) (hs _ q2 h2) (jn_cmp _ _ hop) (Nat.le_refl _) (by omega)
theorem p_not_nd {r k : Nat} {inn one : Nat → PR} (hk : 1 ≤ k) (hi : 0 < r → p_nd (k + 3) inn) (ho : p_nd k one) : p_nd (k + 3) (p_not f n r inn one) := by
  intro p q h
  unfold p_not at h
  split at h
  · split at h
    · next hr =>
      split at h
      · cases h
      · next q2 h2 => cases h; exact nd_un (hi hr _ q2 h2) rfl (by omega)
    · cases h
  · exact p_cmp_nd hk ho p q h
theorem p_or_nd {nt : Nat → PR} {k : Nat} (hk : 1 ≤ k) (hn : p_nd k nt) : p_nd (k + 2) (p_or f n nt) := p_ch_nd (by omega) jn_or (p_ch_nd hk jn_and hn)
theorem p_nd_weak {k k2 : Nat} {i : Nat → PR} (h : p_nd k i) (hk : k ≤ k2) : p_nd k2 i := fun p q z => nd_weak (h p q z) hk
theorem p_lv_nd (hf : t_nn f n) : ∀ r : Nat, p_nd (1 + 5 * r) (p_lv f n r).1 ∧ p_nd (4 + 5 * r) (p_lv f n r).2.1 ∧ p_nd (6 + 5 * r) (p_lv f n r).2.2
  | 0 => by
    have h1 : p_nd 1 (p_one f n 0 p_no p_no) := p_one_nd hf (Nat.le_refl 1) (fun h => absurd h (Nat.lt_irrefl 0)) (fun h => absurd h (Nat.lt_irrefl 0))
    have h2 : p_nd 4 (p_not f n 0 p_no (p_one f n 0 p_no p_no)) := p_not_nd (Nat.le_refl 1) (fun h => absurd h (Nat.lt_irrefl 0)) h1
    exact ⟨h1, h2, p_or_nd (by omega) h2⟩
  | r + 1 => by
    obtain ⟨a1, a2, a3⟩ := p_lv_nd hf r
    have h1 := p_one_nd (r := r + 1) (k := 1 + 5 * (r + 1)) hf (by omega) (fun _ => p_nd_weak a1 (by omega)) (fun _ => p_nd_weak a3 (by omega))
    have h2 := p_not_nd (f := f) (n := n) (r := r + 1) (k := 1 + 5 * (r + 1)) (by omega) (fun _ => p_nd_weak a2 (by omega)) h1
    exact ⟨h1, p_nd_weak h2 (by omega), p_nd_weak (p_or_nd (by omega) h2) (by omega)⟩
end
