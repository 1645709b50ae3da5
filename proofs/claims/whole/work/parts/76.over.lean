theorem sumN_cg {f g : Nat → Nat} : ∀ n, (∀ i, i < n → f i = g i) → sumN f n = sumN g n
  | 0, _ => rfl
  | n + 1, h => by show sumN f n + f n = sumN g n + g n; rw [sumN_cg n (fun i hi => h i (by omega)), h n (by omega)]
theorem sumN_add (f g : Nat → Nat) : ∀ n, sumN (fun i => f i + g i) n = sumN f n + sumN g n
  | 0 => rfl
  | n + 1 => by show sumN (fun i => f i + g i) n + (f n + g n) = (sumN f n + f n) + (sumN g n + g n); rw [sumN_add f g n]; omega
theorem sumN_mul (f : Nat → Nat) (c : Nat) : ∀ n, sumN (fun i => c * f i) n = c * sumN f n
  | 0 => rfl
  | n + 1 => by show sumN (fun i => c * f i) n + c * f n = c * (sumN f n + f n); rw [sumN_mul f c n, Nat.mul_add]
theorem sumN_zero : ∀ n, sumN (fun _ => 0) n = 0
  | 0 => rfl
  | n + 1 => by show sumN (fun _ => 0) n + 0 = 0; rw [sumN_zero n]
theorem sumN_const (c : Nat) : ∀ n, sumN (fun _ => c) n = n * c
  | 0 => by rw [Nat.zero_mul]; rfl
  | n + 1 => by show sumN (fun _ => c) n + c = (n + 1) * c; rw [sumN_const c n, Nat.add_mul, Nat.one_mul]
theorem sumN_swap (f : Nat → Nat → Nat) (m : Nat) : ∀ n, sumN (fun i => sumN (fun j => f i j) m) n = sumN (fun j => sumN (fun i => f i j) n) m
  | 0 => by show 0 = sumN (fun _ => 0) m; rw [sumN_zero]
  | n + 1 => by
    show sumN (fun i => sumN (fun j => f i j) m) n + sumN (fun j => f n j) m = sumN (fun j => sumN (fun i => f i j) n + f n j) m
    rw [sumN_swap f m n, ← sumN_add]
theorem sumN_split (f : Nat → Nat) (a : Nat) : ∀ b, sumN f (a + b) = sumN f a + sumN (fun i => f (a + i)) b
  | 0 => rfl
  | b + 1 => by
    show sumN f (a + b) + f (a + b) = sumN f a + (sumN (fun i => f (a + i)) b + f (a + b))
    rw [sumN_split f a b]
    omega
theorem sumN_head (f : Nat → Nat) (n : Nat) : sumN f (n + 1) = f 0 + sumN (fun i => f (i + 1)) n := by
  rw [Nat.add_comm n 1, sumN_split f 1 n]
  have e1 : sumN f 1 = f 0 := by show 0 + f 0 = f 0; omega
  rw [e1]
  congr 1
  exact sumN_cg n (fun i _ => by rw [Nat.add_comm 1 i])
theorem sumN_list (f : Nat → Nat) : ∀ n, sumN f n = ((List.range n).map f).sum
  | 0 => rfl
  | n + 1 => by
    show sumN f n + f n = _
    rw [sumN_list f n, List.range_succ, List.map_append, List.sum_append]
    simp
/-! shifts -/
theorem sh1 {P : Nat} (hP : 0 < P) (g : Nat → Nat) : sumN (fun b => g ((b + 1) % P)) P = sumN g P := by
  obtain ⟨n, rfl⟩ : ∃ n, P = n + 1 := ⟨P - 1, by omega⟩
  show sumN (fun b => g ((b + 1) % (n + 1))) n + g ((n + 1) % (n + 1)) = sumN g (n + 1)
  rw [Nat.mod_self, sumN_head g n]
  rw [sumN_cg (g := fun i => g (i + 1)) n (fun i hi => by rw [Nat.mod_eq_of_lt (by omega)])]
  omega
theorem shf {P : Nat} (hP : 0 < P) (g : Nat → Nat) : ∀ s, sumN (fun b => g ((s + b) % P)) P = sumN g P
  | 0 => sumN_cg P (fun i hi => by rw [Nat.zero_add, Nat.mod_eq_of_lt hi])
  | s + 1 => by
    rw [← shf hP g s, ← sh1 hP (fun b => g ((s + b) % P))]
    exact sumN_cg P (fun i _ => by rw [Nat.add_mod_mod]; congr 2; omega)
/-! columns -/
theorem col_cnt {W c : Nat} (hW : 0 < W) (hc : c < W) : ∀ n, sumN (fun v => if v % W = c then 1 else 0) n = n / W + if c < n % W then 1 else 0
  | 0 => by
    show 0 = _
    rw [Nat.zero_div, Nat.zero_mod, if_neg (by omega)]
  | n + 1 => by
    show sumN (fun v => if v % W = c then 1 else 0) n + (if n % W = c then 1 else 0) = _
    rw [col_cnt hW hc n]
    have h1 := Nat.mod_lt n hW
    have h2 := Nat.div_add_mod n W
    by_cases h : n % W + 1 < W
    · obtain ⟨e1, e2⟩ := (Nat.div_mod_unique (a := n + 1) (b := W) (d := n / W) (c := n % W + 1) hW).mpr ⟨by omega, h⟩
      rw [e1, e2]
      by_cases q1 : c < n % W
      · rw [if_pos q1, if_neg (show ¬ n % W = c by omega), if_pos (show c < n % W + 1 by omega)]
      · rw [if_neg q1]
        by_cases q2 : n % W = c
        · rw [if_pos q2, if_pos (show c < n % W + 1 by omega)]
        · rw [if_neg q2, if_neg (show ¬ c < n % W + 1 by omega)]
    · obtain ⟨e1, e2⟩ := (Nat.div_mod_unique (a := n + 1) (b := W) (d := n / W + 1) (c := 0) hW).mpr ⟨by rw [Nat.mul_add]; omega, hW⟩
      rw [e1, e2, if_neg (show ¬ c < 0 by omega)]
      by_cases q1 : c < n % W
      · rw [if_pos q1, if_neg (show ¬ n % W = c by omega)]
      · rw [if_neg q1, if_pos (show n % W = c by omega)]
theorem per_sum {W : Nat} (hW : 0 < W) (f : Nat → Nat) : ∀ q r, r < W → sumN (fun u => f (u % W)) (W * q + r) = q * sumN f W + sumN f r
  | 0, r, hr => by
    rw [Nat.mul_zero, Nat.zero_add, Nat.zero_mul, Nat.zero_add]
    exact sumN_cg r (fun i hi => by rw [Nat.mod_eq_of_lt (by omega)])
  | q + 1, r, hr => by
    rw [show W * (q + 1) + r = W + (W * q + r) by rw [Nat.mul_add]; omega, sumN_split]
    rw [sumN_cg (g := f) W (fun i hi => by rw [Nat.mod_eq_of_lt hi])]
    rw [sumN_cg (g := fun u => f (u % W)) (W * q + r) (fun i _ => by rw [Nat.add_mod_left])]
    rw [per_sum hW f q r hr, Nat.add_mul, Nat.one_mul]
    omega
def mtN (P W : Nat) : Nat := P % W * (P / W + 1) * (P / W) + (W - P % W) * (P / W) * (P / W - 1)
theorem meet_sum {P W : Nat} (hW : 0 < W) : sumN (fun u => (P / W + if u % W < P % W then 1 else 0) - 1) P = mtN P W := by
  have hr := Nat.mod_lt P hW
  have hdm := Nat.div_add_mod P W
  have h0 := per_sum hW (fun c => (P / W + if c < P % W then 1 else 0) - 1) (P / W) (P % W) hr
  rw [hdm] at h0
  rw [h0]
  unfold mtN
  generalize P / W = q
  generalize P % W = r at hr
  have e1 : sumN (fun c => (q + if c < r then 1 else 0) - 1) r = r * q := by
    rw [← sumN_const q r]
    exact sumN_cg r (fun i hi => by rw [if_pos hi]; omega)
  have e2 : sumN (fun c => (q + if c < r then 1 else 0) - 1) W = r * q + (W - r) * (q - 1) := by
    have e3 : W = r + (W - r) := by omega
    conv => lhs; rw [e3]
    rw [sumN_split, e1, ← sumN_const (q - 1) (W - r)]
    congr 1
    exact sumN_cg _ (fun i _ => by rw [if_neg (by omega)]; omega)
  rw [e1, e2]
  have e4 : q * (r * q + (W - r) * (q - 1)) = r * q * q + (W - r) * q * (q - 1) := by
    rw [Nat.mul_add, ← Nat.mul_assoc, Nat.mul_comm q r, ← Nat.mul_assoc, Nat.mul_comm q (W - r)]
  have e5 : r * (q + 1) * q = r * q * q + r * q := by
    rw [Nat.mul_add, Nat.mul_one, Nat.add_mul]
  rw [e4, e5]
  omega
/-! primes -/
theorem prm_co {P e : Nat} (hp : prm P) (h0 : 0 < e) (h1 : e < P) : Nat.gcd P e = 1 := by
  have hg1 : Nat.gcd P e ∣ P := Nat.gcd_dvd_left P e
  have hg2 : Nat.gcd P e ∣ e := Nat.gcd_dvd_right P e
  have hle := Nat.le_of_dvd h0 hg2
  have hpos : 0 < Nat.gcd P e := Nat.pos_of_dvd_of_pos hg2 h0
  generalize Nat.gcd P e = g at *
  apply Classical.byContradiction
  intro hne
  have hg : 2 ≤ g := by omega
  obtain ⟨m, hm⟩ := hg1
  have hm2 : 2 ≤ m := by
    rcases (show m = 0 ∨ m = 1 ∨ 2 ≤ m by omega) with q | q | q
    · rw [q, Nat.mul_zero] at hm; have := hp.1; omega
    · rw [q, Nat.mul_one] at hm; omega
    · exact q
  rcases Nat.le_total g m with q | q
  · refine hp.2 g hg (by rw [hm]; exact Nat.mul_le_mul_left g q) ?_
    rw [hm]
    exact Nat.mul_mod_right g m
  · refine hp.2 m hm2 (by rw [hm]; exact Nat.mul_le_mul_right m q) ?_
    rw [hm]
    exact Nat.mul_mod_left g m
theorem prm_dvd {P a d : Nat} (hp : prm P) (hd : d % P ≠ 0) (h : P ∣ a * d) : P ∣ a := by
  have hP : 0 < P := by have := hp.1; omega
  have h1 : Nat.gcd P (d % P) = 1 := prm_co hp (by omega) (Nat.mod_lt _ hP)
  have h2 : Nat.Coprime P d := by
    unfold Nat.Coprime
    rw [← h1, Nat.gcd_comm P (d % P), ← Nat.gcd_rec]
  exact Nat.Coprime.dvd_of_dvd_mul_right h2 h
theorem mul_inj {P d a b : Nat} (hp : prm P) (hd : d % P ≠ 0) (hab : a ≤ b) (hb : b < P) (h : (a * d) % P = (b * d) % P) : a = b := by
  have h1 : P ∣ b * d - a * d := Nat.dvd_of_mod_eq_zero (Nat.sub_mod_eq_zero_of_mod_eq h.symm)
  rw [← Nat.sub_mul] at h1
  have h2 := prm_dvd hp hd h1
  have h3 := Nat.eq_zero_of_dvd_of_lt h2 (by omega)
  omega
theorem perm_mul {P d : Nat} (hp : prm P) (hd : d % P ≠ 0) : ((List.range (P - 1)).map (fun a => ((a + 1) * d) % P)).Perm ((List.range (P - 1)).map (fun a => a + 1)) := by
  have hP : 2 ≤ P := hp.1
  have n1 : ((List.range (P - 1)).map (fun a => ((a + 1) * d) % P)).Nodup := by
    rw [List.nodup_iff_pairwise_ne, List.pairwise_map]
    refine List.Pairwise.imp_of_mem ?_ (List.nodup_iff_pairwise_ne.mp List.nodup_range)
    intro a b ha hb hne e
    rw [List.mem_range] at ha hb
    apply hne
    rcases Nat.le_total a b with q | q
    · have := mul_inj hp hd (Nat.succ_le_succ q) (by omega) e; omega
    · have := mul_inj hp hd (Nat.succ_le_succ q) (by omega) e.symm; omega
  have n2 : ((List.range (P - 1)).map (fun a => a + 1)).Nodup := by
    rw [List.nodup_iff_pairwise_ne, List.pairwise_map]
    exact (List.nodup_iff_pairwise_ne.mp List.nodup_range).imp (fun hne e => hne (by omega))
  have hsub : ((List.range (P - 1)).map (fun a => ((a + 1) * d) % P)) ⊆ ((List.range (P - 1)).map (fun a => a + 1)) := by
    intro y hy
    obtain ⟨a, ha, rfl⟩ := List.mem_map.mp hy
    rw [List.mem_range] at ha
    have hlt := Nat.mod_lt ((a + 1) * d) (show P > 0 by omega)
    have hne : ((a + 1) * d) % P ≠ 0 := fun e => by
      have h2 := prm_dvd hp hd (Nat.dvd_of_mod_eq_zero e)
      have h3 := Nat.le_of_dvd (by omega) h2
      omega
    exact List.mem_map.mpr ⟨((a + 1) * d) % P - 1, List.mem_range.mpr (by omega), by omega⟩
  refine (List.perm_ext_iff_of_nodup n1 n2).mpr (fun y => ⟨fun h => hsub h, fun h => ?_⟩)
  apply Classical.byContradiction
  intro hn
  have := List.Nodup.length_le_of_subset (List.nodup_cons.mpr ⟨hn, n1⟩) (fun z hz => by
    rcases List.mem_cons.mp hz with q | q
    · rw [q]; exact h
    · exact hsub q)
  rw [List.length_cons, List.length_map, List.length_map] at this
  omega
theorem sum_mul {P d : Nat} (hp : prm P) (hd : d % P ≠ 0) (F : Nat → Nat) : sumN (fun a => F (((a + 1) * d) % P)) (P - 1) = sumN (fun a => F (a + 1)) (P - 1) := by
  rw [sumN_list, sumN_list]
  have h := ((perm_mul hp hd).map F).sum_nat
  rw [List.map_map, List.map_map] at h
  exact h
def pairC (P W x y : Nat) : Nat := sumN (fun a => sumN (fun b => if hsh P W (a + 1) b y = hsh P W (a + 1) b x then 1 else 0) P) (P - 1)
theorem pair_meet {P W x y : Nat} (hp : prm P) (hW : 0 < W) (hx : x < P) (hy : y < P) (hne : y ≠ x) : pairC P W x y = mtN P W := by
  have hP : 0 < P := by have := hp.1; omega
  have hd : (y + P - x) % P ≠ 0 := fun e => by
    obtain ⟨m, hm⟩ := Nat.dvd_of_mod_eq_zero e
    rcases (show m = 0 ∨ m = 1 ∨ 2 ≤ m by omega) with q | q | q
    · rw [q, Nat.mul_zero] at hm; omega
    · rw [q, Nat.mul_one] at hm; omega
    · have := Nat.mul_le_mul_left P q; omega
  have e1 : pairC P W x y = sumN (fun a => (fun δ => sumN (fun u => if (u + δ) % P % W = u % W then 1 else 0) P) (((a + 1) * (y + P - x)) % P)) (P - 1) := by
    unfold pairC
    apply sumN_cg
    intro a _
    show _ = sumN (fun u => if (u + ((a + 1) * (y + P - x)) % P) % P % W = u % W then 1 else 0) P
    rw [← shf hP (fun u => if (u + ((a + 1) * (y + P - x)) % P) % P % W = u % W then 1 else 0) ((a + 1) * x)]
    apply sumN_cg
    intro b _
    unfold hsh
    have h9 : ((a + 1) * x + b) % P + ((a + 1) * (y + P - x)) % P = ((a + 1) * x + b) % P + ((a + 1) * (y + P - x)) % P := rfl
    have e2 : (((a + 1) * x + b) % P + ((a + 1) * (y + P - x)) % P) % P = ((a + 1) * y + b) % P := by
      rw [← Nat.add_mod]
      have e3 : (a + 1) * x + b + (a + 1) * (y + P - x) = (a + 1) * y + b + (a + 1) * P := by
        have e4 : (a + 1) * x + (a + 1) * (y + P - x) = (a + 1) * (y + P) := by
          rw [← Nat.mul_add]; congr 1; omega
        rw [Nat.mul_add] at e4
        omega
      rw [e3, Nat.add_mul_mod_self_right]
    rw [e2]
  rw [e1, sum_mul hp hd (fun δ => sumN (fun u => if (u + δ) % P % W = u % W then 1 else 0) P), sumN_swap, ← meet_sum hW]
  apply sumN_cg
  intro u hu
  have hcw : u % W < W := Nat.mod_lt _ hW
  have h1 := shf hP (fun v => if v % W = u % W then 1 else 0) u
  rw [col_cnt hW hcw] at h1
  obtain ⟨n, rfl⟩ : ∃ n, P = n + 1 := ⟨P - 1, by omega⟩
  rw [sumN_head] at h1
  rw [Nat.add_zero, Nat.mod_eq_of_lt hu, if_pos rfl] at h1
  rw [← h1, Nat.add_sub_cancel, Nat.add_comm 1, Nat.add_sub_cancel]
