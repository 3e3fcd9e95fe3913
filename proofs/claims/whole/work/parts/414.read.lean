/-! LAYER 2: read -/
def x00 : SC := SC.mk 0 [] 0 false false 0
theorem x00_ok : okS x00 0 := ⟨by decide, fun _ h => (List.not_mem_nil h).elim, by decide, by decide, by decide, by decide, by decide, fun _ => rfl, fun _ => rfl⟩
/-- where the text is wrong -/
def rdW (cs : List Nat) : Option Nat := match (run cs 0 x00).2 with
  | some j => some j
  | none => if (run cs 0 x00).1.s = 2 ∨ (run cs 0 x00).1.s = 4 ∨ (run cs 0 x00).1.s = 5 ∨ (run cs 0 x00).1.s = 8 ∨ (run cs 0 x00).1.s = 11 ∨ (run cs 0 x00).1.s = 14 then none else some cs.length
def rdY (cs : List Nat) : SC := (run cs 0 x00).1
noncomputable def nbr (ds : List Nat) (P : Int) : Nat := Classical.epsilon (fun r => r ≤ 9218868437227405312 ∧ clsN ds P r ∧ refN ds P r)
theorem nbr_s {ds : List Nat} {P : Int} (h1 : ∀ d ∈ ds, d < 10) (h2 : ds.head? ≠ some 0) (h3 : ds.getLast? ≠ some 0) (h0 : ds ≠ []) (hl : ds.length ≤ 1200) (hP1 : -1000000 < P) (hP2 : P < 1000000) : clsN ds P (nbr ds P) ∧ refN ds P (nbr ds P) := (Classical.epsilon_spec (near_ex h1 h2 h3 h0 hl hP1 hP2)).2
def pwr (y : SC) : Int := y.p + (if y.en then -(y.ex : Int) else (y.ex : Int))
noncomputable def rdM (y : SC) : Int64 := if y.s = 11 then 9218868437227405312 else if drz y.ds = [] then 0 else lN (nbr (drz y.ds) (pwr y))
noncomputable def rdB (y : SC) : Int64 := if y.s = 14 then 9221120237041090560 else if y.ng then rdM y ||| (-9223372036854775808) else rdM y
theorem end_c : ∀ s : Nat, s < 15 → f_Numeral_isEnd (iI s) = some (iI (if s = 2 ∨ s = 4 ∨ s = 5 ∨ s = 8 ∨ s = 11 ∨ s = 14 then 1 else 0)) := by decide +kernel
theorem end_m : ∀ s : Nat, s < 15 → f_Md_ends (iI (mu s)) = some (iI (if s = 2 ∨ s = 4 ∨ s = 5 ∨ s = 8 ∨ s = 11 ∨ s = 14 then 1 else 0)) := by decide +kernel
theorem scan_s {et de : Nat → Int32} {l s1 s2 s3 s4 dc dp : Int32} {cs : List Nat} (ht : xT 1200 et l cs) :
    (∀ j, rdW cs = some j → j ≤ cs.length ∧ ∃ x1 x2 x3 x4 x5 x6 x7, f_Numeral_scan 1200 1200 s1 s2 s3 s4 dc dp de l et = some (iI j, x1, x2, x3, x4, x5, x6, x7)) ∧
    (rdW cs = none → ∃ dc' de', f_Numeral_scan 1200 1200 s1 s2 s3 s4 dc dp de l et = some (iI (-1), iI (rdY cs).ex, bI (rdY cs).en, bI (rdY cs).ng, iI (rdY cs).s, dc', iI (rdY cs).p, de') ∧ xD de' dc' (rdY cs).ds ∧ okS (rdY cs) cs.length) := by
  obtain ⟨q1, q2⟩ := scan_lp ht cs [] x00 xF (iI 0) de rfl (by have := ht.1; show cs.length < 5000; omega) x00_ok xD_nil
  unfold f_Numeral_scan
  rw [clear_s]
  simp only [xob]
  cases hr : run cs 0 x00 with
  | mk y o =>
    have hY : rdY cs = y := by unfold rdY; rw [hr]
    cases o with
    | some j =>
      have hW : rdW cs = some j := by unfold rdW; rw [hr]
      obtain ⟨hj, x1, x2, x3, x4, x5, x6, x7, w⟩ := q2 y j hr
      have w' : lp_Numeral_scan_29 l et 1200 1200 xF (0 : Int32) (0 : Int32) (0 : Int32) (0 : Int32) (0 : Int32) (iI 0) (iI 0) de = _ := w
      rw [w']
      refine ⟨fun j' hj' => ?_, fun hn => ?_⟩
      · rw [hW] at hj'
        cases hj'
        exact ⟨by omega, _, _, _, _, _, _, _, rfl⟩
      · rw [hW] at hn; cases hn
    | none =>
      obtain ⟨dc', de', w, w2, w3⟩ := q1 y hr
      have w' : lp_Numeral_scan_29 l et 1200 1200 xF (0 : Int32) (0 : Int32) (0 : Int32) (0 : Int32) (0 : Int32) (iI 0) (iI 0) de = _ := w
      rw [w']
      simp only []
      rw [end_c y.s w3.1]
      simp only []
      by_cases hE : y.s = 2 ∨ y.s = 4 ∨ y.s = 5 ∨ y.s = 8 ∨ y.s = 11 ∨ y.s = 14
      · have hW : rdW cs = none := by unfold rdW; rw [hr]; exact if_pos hE
        rw [if_pos hE, if_neg (by decide), hW, hY]
        exact ⟨fun j hj => (by cases hj), fun _ => ⟨dc', de', rfl, w2, w3⟩⟩
      · have hW : rdW cs = some cs.length := by unfold rdW; rw [hr]; exact if_neg hE
        rw [if_neg hE, if_pos (by rfl), hW]
        refine ⟨fun j hj => ?_, fun hn => (by cases hn)⟩
        cases hj
        simp only [f_Text_length]
        rw [ht.2.1]
        exact ⟨Nat.le_refl _, _, _, _, _, _, _, _, rfl⟩
theorem drz_lst : ∀ l : List Nat, (drz l).getLast? ≠ some 0 := by
  intro l
  unfold drz
  rw [List.getLast?_reverse]
  cases h : (List.dropWhile (· == 0) l.reverse) with
  | nil => simp
  | cons x r =>
    have := List.head?_dropWhile_not (p := (· == 0)) (l := l.reverse)
    rw [h] at this
    simp at this
    simp
    exact this
theorem drz_mem {l : List Nat} {d : Nat} (h : d ∈ drz l) : d ∈ l := by
  obtain ⟨k, hk⟩ := drz_pre l
  rw [hk]
  exact List.mem_append_left _ h
theorem drz_hd {l : List Nat} (h : l.head? ≠ some 0) : (drz l).head? ≠ some 0 := by
  obtain ⟨k, hk⟩ := drz_pre l
  by_cases c : drz l = []
  · rw [c]; simp
  · rw [hk, hap c] at h
    exact h
theorem nbits_s {y : SC} {i : Nat} {dc pw ff fe : Int32} {de e : Nat → Int32} (ho : okS y i) (hi : i ≤ 1200) (hN : 12 ≤ y.s → y.ng = false) (hE : y.s = 2 ∨ y.s = 4 ∨ y.s = 5 ∨ y.s = 8 ∨ y.s = 11 ∨ y.s = 14) (hd : xD de dc y.ds) :
    ∃ x1 x2 x3 x4 x5 x6, f_Numeral_bits 1200 255 (iI y.s) (bI y.ng) (bI y.en) (iI y.ex) dc (iI y.p) de pw ff fe e = some (rdB y, x1, x2, x3, x4, x5, x6) := by
  obtain ⟨h1, h2, h3, h4, h5, h6, h7, h8, h9⟩ := ho
  unfold f_Numeral_bits rdB
  by_cases c14 : y.s = 14
  · have hng := hN (by omega)
    rw [if_pos c14, hng, c14, if_neg (by decide), if_pos (by rfl)]
    exact ⟨_, _, _, _, _, _, rfl⟩
  · rw [if_neg c14]
    have key : ∃ x1 x2 x3 x4 x5 x6, (if iI (y.s : Int) = (11 : Int32) then (some ((9218868437227405312 : Int64), dc, iI y.p, pw, fe, ff, e)) else (if iI (y.s : Int) = (14 : Int32) then (some ((9221120237041090560 : Int64), dc, iI y.p, pw, fe, ff, e)) else (xob (if bI y.en = 0 then (some (iI (y.ex : Int))) else (some (-iI (y.ex : Int)))) fun z_13 => xob (f_Decimal_movePoint dc (iI y.p) z_13) fun s_t_decimal_point_16 => xob (f_Decimal_dropZerosBehind 1200 dc s_t_decimal_point_16 de) fun (s_t_decimal_count_18, s_t_decimal_point_19) => xob (f_Nearest_bits 255 1200 pw ff fe e s_t_decimal_count_18 s_t_decimal_point_19 de) fun (r_21, a2, a3, a4, a5) => some (r_21, s_t_decimal_count_18, s_t_decimal_point_19, a2, a3, a4, a5)))) = some (rdM y, x1, x2, x3, x4, x5, x6) := by
      unfold rdM
      by_cases c11 : y.s = 11
      · rw [if_pos c11, if_pos (by rw [c11]; rfl)]
        exact ⟨_, _, _, _, _, _, rfl⟩
      · rw [if_neg c11, if_neg (by rw [iL11, iI_eq (by omega) (by omega) (by omega) (by omega)]; omega), if_neg (by rw [iL14, iI_eq (by omega) (by omega) (by omega) (by omega)]; omega)]
        have hz : (if bI y.en = 0 then (some (iI (y.ex : Int))) else (some (-iI (y.ex : Int)))) = some (iI (if y.en then -(y.ex : Int) else (y.ex : Int))) := by
          cases y.en with
          | false => rfl
          | true => rw [if_neg (by decide), iI_neg]; rfl
        rw [hz]
        simp only [xob, f_Decimal_movePoint]
        rw [iI_add]
        obtain ⟨d1, d2⟩ := drop_s (p := iI (pwr y)) hd (N := 1200) (by omega) (by decide)
        have d1' : f_Decimal_dropZerosBehind 1200 dc (iI (y.p + (if y.en then -(y.ex : Int) else (y.ex : Int)))) de = _ := d1
        rw [d1']
        simp only []
        by_cases c0 : drz y.ds = []
        · rw [if_pos c0, if_pos c0, c0]
          unfold f_Nearest_bits f_Decimal_count
          simp only [xob]
          rw [if_pos (by rfl)]
          exact ⟨_, _, _, _, _, _, rfl⟩
        · rw [if_neg c0, if_neg c0]
          have hpl := drz_len y.ds
          have hpw : -1000000 < pwr y ∧ pwr y < 1000000 := by unfold pwr; split <;> omega
          obtain ⟨x1, x2, x3, x4, w⟩ := (nbr_s (ds := drz y.ds) (P := pwr y) (fun d hd => h2 d (drz_mem hd)) (drz_hd h3) (drz_lst _) c0 (by omega) hpw.1 hpw.2).1 1200 e de (iI (drz y.ds).length) pw ff fe d2 (by omega) (by decide)
          rw [w]
          exact ⟨_, _, _, _, _, _, rfl⟩
    obtain ⟨x1, x2, x3, x4, x5, x6, w⟩ := key
    rw [w]
    simp only [xob]
    cases hng : y.ng with
    | false =>
      rw [if_pos (by rfl)]
      exact ⟨_, _, _, _, _, _, rfl⟩
    | true =>
      rw [if_neg (by decide)]
      exact ⟨_, _, _, _, _, _, rfl⟩
