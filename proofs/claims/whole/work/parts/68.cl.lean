theorem nth_cg {E F : Nat → Bool} : ∀ (n l : Nat), (∀ k, k < n → E k = F k) → nth E n l = nth F n l
  | 0, l, _ => rfl
  | n + 1, l, h => by
    have e1 := nth_cg n l (fun k hk => h k (by omega))
    have e2 := cnt_congr n (fun k hk => h k (by omega))
    unfold nth
    rw [h n (by omega), e2, e1]
theorem nth_up {E : Nat → Bool} {b l : Nat} (hl : l < cnt E b) : ∀ k, nth E (b + k) l = nth E b l
  | 0 => rfl
  | k + 1 => by
    show nth E (b + k + 1) l = _
    rw [nth_lo (Nat.lt_of_lt_of_le hl (cnt_mono k)), nth_up hl k]
theorem cl_dec {m t n : Nat} (h3 : 3 ≤ m) (h13 : m ≤ 13) (ht8 : t ≤ 8) (hn1 : 1 ≤ n) (hn22 : n ≤ 2176) (hn : n ≤ 2 ^ m - 1) {sy : Nat → Nat} {w : Nat → Bool} (hsy : ∀ j, 1 ≤ j → j ≤ 2 * t → sy j = wsm m w n j n) {sp w0 : Nat → Nat} {l0 : Nat → Option Nat} {s : Bs} (hs : s = bml m sy (2 * t) 0 (d0, d0, sp, 0, 1, 1)) {F : Fs} (hF : F = fwr m s.2.2.2.1 n 0 (fwt m s.1 n l0 s.2.2.2.1, 0, w0)) :
    (s.2.2.2.1 ≤ t → F.2.1 = s.2.2.2.1 → ∃ v, Rt m t n v ∧ cnt (fun k => w k ^^ v k) n ≤ t) ∧
    (∀ v, Rt m t n v → cnt (fun k => w k ^^ v k) n ≤ t → s.2.2.2.1 = cnt (fun k => w k ^^ v k) n ∧ F.2.1 = s.2.2.2.1 ∧ ∀ l, l < s.2.2.2.1 → F.2.2 l = nth (fun k => w k ^^ v k) n l) := by
  letI := FF.ring h3 h13
  letI := FF.chr h3 h13
  have hp := FF.hm h3 h13
  have hv := FF.iv h3 h13
  have hB : BC m (2 * t) (fe m) sy (2 * t) s := by
    rw [hs]
    exact bml_BC hp h3 h13 (by omega) (fun j h1 h2 => by rw [hsy j h1 h2]; exact wsm_lt h3 h13 n) (2 * t) 0 _ (by omega) (BC.st hv hp h3 h13)
  have hI := hB.1
  obtain ⟨b, f1, f2, f3, f4, f5⟩ := fwr_spec (m := m) (many := s.2.2.2.1) (n := n) (l0 := fwt m s.1 n l0 s.2.2.2.1) n 0 (fwt m s.1 n l0 s.2.2.2.1, 0, w0) (by omega) rfl rfl (Nat.zero_le _) (fun l hl => absurd hl (Nat.not_lt_zero _))
  rw [← hF] at f2 f4
  have hzc : ∀ k, k < n → (zcb m s.2.2.2.1 (fwt m s.1 n l0 s.2.2.2.1) k = true ↔ cev m (fe m) (fiv h3 h13) s.1 s.2.2.2.1 n k = 0) := fun k hk => zcb_ev hv hp h3 h13 hI.2.2.2.2.1 (Nat.le_trans hI.1 (by omega)) hn1 hn22 hB.2.1.1 hk
  refine ⟨fun hL hF1 => ?_, fun v hr hd => ?_⟩
  · rw [hF1] at f2
    refine cl_sound hv hp h3 h13 hn hsy hB hL (f := nth (zcb m s.2.2.2.1 (fwt m s.1 n l0 s.2.2.2.1)) b) (fun l hl => ?_) (fun l k h1 h2 => ?_) (fun l hl => ?_)
    · have := (nth_spec b l (show l < cnt (zcb m s.2.2.2.1 (fwt m s.1 n l0 s.2.2.2.1)) b by omega)).1; omega
    · exact Nat.ne_of_lt (nth_mono b l k h1 (by omega))
    · have h := nth_spec b l (show l < cnt (zcb m s.2.2.2.1 (fwt m s.1 n l0 s.2.2.2.1)) b by omega)
      exact (hzc _ (by omega)).mp h.2
  · obtain ⟨c1, c2⟩ := cl_comp hv hp h3 h13 hn hsy hB hr hd
    have hze : ∀ k, k < n → zcb m s.2.2.2.1 (fwt m s.1 n l0 s.2.2.2.1) k = (w k ^^ v k) := fun k hk => by
      have h1 := (hzc k hk).trans (c2 k hk)
      cases hz : zcb m s.2.2.2.1 (fwt m s.1 n l0 s.2.2.2.1) k <;> cases hw : (w k ^^ v k) <;> simp_all
    have hcn : cnt (zcb m s.2.2.2.1 (fwt m s.1 n l0 s.2.2.2.1)) n = s.2.2.2.1 := (cnt_congr n hze).trans c1.symm
    have hbn : cnt (zcb m s.2.2.2.1 (fwt m s.1 n l0 s.2.2.2.1)) b = s.2.2.2.1 := by
      rcases f5 with f5 | f5
      · rw [f5]; exact hcn
      · omega
    refine ⟨c1, by rw [f2, hbn], fun l hl => ?_⟩
    rw [f4 l (by omega), ← nth_cg n l hze]
    have := nth_up (E := zcb m s.2.2.2.1 (fwt m s.1 n l0 s.2.2.2.1)) (b := b) (l := l) (by omega) (n - b)
    rw [show b + (n - b) = n by omega] at this
    exact this.symm
