section BT
variable {l : Launch} {dC : Nat → ClassId} {dI : Nat → Nat → Nat} {ad : Nat → Nat} {cI cJ : ClassId} {A : Nat → Prop} {X : bm_X} {fm : Value} {p : Program} {e : Env} {R : Room} {s : State} {m : MethodId} {args : Array Value} {below : List Frame} {meth : Method} {c : Code} {cells slots : Nat} {Q : State → Prop} {M pc : Nat} {L S : List Value} {σ : bm_M}
theorem bs_dmul (C : (bm_Ctx dC dI ad cI cJ A X fm p R s m args c cells slots M)) (hf : bm_fact M pc .dmul) {x y : Int32} (hct : Nat.ble (bm_cat S) 8 = true) (k : (bm_Wg l dC dI ad cI cJ A fm p e R s m args below meth c cells slots Q M (pc + 1) (L) (.int (bm_max x y) :: S) (σ))) : (bm_Wg l dC dI ad cI cJ A fm p e R s m args below meth c cells slots Q M (pc) (L) (.int y :: .int x :: S) (σ)) := by
  obtain ⟨hx, hb, hml, hown, hts, hK, hD, hRO, hfm, hR1, hR2, hR3, hR4⟩ := C
  obtain ⟨hd, hr⟩ := hf
  simp only [bm_rel, Bool.and_eq_true, Bool.or_eq_true, decide_eq_true_eq] at hr
  obtain ⟨⟨⟨hn, h2⟩, h3⟩, hp⟩ := hr
  obtain ⟨i, hi, h1⟩ := bm_prim_in hp
  intro H locs ls hP hS hL
  have k := k H locs ls hP hS hL
  rw [hn] at k
  have hct : ((S.map (bm_cz ad fm)).map fun v => v.category).sum ≤ 8 := by rw [bm_cat_eq hfm]; exact Nat.le_of_ble_eq_true hct
  exact va_mmax hx hb (hml.trans hL.1.symm) hown (hts _ hi) (hts _ bm_max_st) (hts _ bm_math_ini) (hts _ bm_max_co) (by omega) (by omega) hR3 hR4 (bm_dec hd h1 h2) k
theorem bs_dadd (C : (bm_Ctx dC dI ad cI cJ A X fm p R s m args c cells slots M)) (hf : bm_fact M pc .dadd) {x y : Int32} (hct : Nat.ble (bm_cat S) 8 = true) (k : (bm_Wg l dC dI ad cI cJ A fm p e R s m args below meth c cells slots Q M (pc + 1) (L) (.int (bm_min x y) :: S) (σ))) : (bm_Wg l dC dI ad cI cJ A fm p e R s m args below meth c cells slots Q M (pc) (L) (.int y :: .int x :: S) (σ)) := by
  obtain ⟨hx, hb, hml, hown, hts, hK, hD, hRO, hfm, hR1, hR2, hR3, hR4⟩ := C
  obtain ⟨hd, hr⟩ := hf
  simp only [bm_rel, Bool.and_eq_true, Bool.or_eq_true, decide_eq_true_eq] at hr
  obtain ⟨⟨⟨hn, h2⟩, h3⟩, hp⟩ := hr
  obtain ⟨i, hi, h1⟩ := bm_prim_in hp
  intro H locs ls hP hS hL
  have k := k H locs ls hP hS hL
  rw [hn] at k
  have hct : ((S.map (bm_cz ad fm)).map fun v => v.category).sum ≤ 8 := by rw [bm_cat_eq hfm]; exact Nat.le_of_ble_eq_true hct
  exact va_mmin hx hb (hml.trans hL.1.symm) hown (hts _ hi) (hts _ bm_min_st) (hts _ bm_math_ini) (hts _ bm_min_co) (by omega) (by omega) hR3 hR4 (bm_dec hd h1 h2) k
theorem bs_dastore (C : (bm_Ctx dC dI ad cI cJ A X fm p R s m args c cells slots M)) (hf : bm_fact M pc .dastore) {n dp sp : Int32} {d q : Nat} (hct : Nat.ble (bm_cat S) 8 = true) (hac : bm_ac sp dp n (bm_al q) (bm_al d) = true) (k : (bm_Wg l dC dI ad cI cJ A fm p e R s m args below meth c cells slots Q M (pc + 1) (L) (S) (bm_cp σ q d sp.toNatClampNeg dp.toNatClampNeg n.toNatClampNeg))) : (bm_Wg l dC dI ad cI cJ A fm p e R s m args below meth c cells slots Q M (pc) (L) (.int n :: .int dp :: .ref d :: .int sp :: .ref q :: S) (σ)) := by
  obtain ⟨hx, hb, hml, hown, hts, hK, hD, hRO, hfm, hR1, hR2, hR3, hR4⟩ := C
  obtain ⟨hd, hr⟩ := hf
  simp only [bm_rel, Bool.and_eq_true, Bool.or_eq_true, decide_eq_true_eq] at hr
  obtain ⟨⟨⟨hn, h2⟩, h3⟩, hp⟩ := hr
  obtain ⟨i, hi, h1⟩ := bm_prim_in hp
  intro H locs ls hP hS hL
  have hct : ((S.map (bm_cz ad fm)).map fun v => v.category).sum ≤ 8 := by rw [bm_cat_eq hfm]; exact Nat.le_of_ble_eq_true hct
  simp only [bm_ac, Bool.and_eq_true, Bool.not_eq_true', decide_eq_false_iff_not, decide_eq_true_eq] at hac
  obtain ⟨⟨⟨⟨⟨⟨z1, z2⟩, a1⟩, a2⟩, a3⟩, a4⟩, a5⟩ := hac
  refine va_copyi (ty := .int) hx hb (hml.trans hL.1.symm) hown (hts _ hi) (hts _ bm_ac_na) (hts _ bm_ac_st) (hts _ bm_sys_ini) hK hP (hD σ) hS q d 0 0 (by rw [bm_ws_at (bm_al_in z1).1, bm_cell_arr z1]) (by rw [bm_ws_at (bm_al_in z2).1, bm_cell_arr z2]) rfl rfl rfl a1 a2 a3 a4 a5 (fun _ _ => rfl) (by omega) ?_ (bm_dec hd h1 h2) (fun H1 locs1 hP1 _ hS1 => ?_)
  · have : nativeFrameWords "java/lang/System" "arraycopy" 5 = 7 := by decide +kernel
    rw [this]
    omega
  · rw [bm_ws_set (τ := bm_cp σ q d sp.toNatClampNeg dp.toNatClampNeg n.toNatClampNeg) (by rw [bm_cell_arr z2]; simp [bm_cp]) (fun j hj => by simp [bm_cp, hj])] at hP1
    have k := k H1 locs1 ls hP1 hS1 hL
    rw [hn] at k
    exact k
/-- where a switch goes -/
def bm_tg (x : Int32) (d : Nat) : List (Int × Int) → Nat
  | [] => d
  | (v, t) :: l => if x = nI v.toNat then t.toNat else bm_tg x d l
theorem bm_sw_tg {γ : Nat → List Value → bm_M → bm_R} {κ : Nat → List Value → List Value → bm_M → bm_R} {x : Int32} {d : Nat} : ∀ l : List (Int × Int), bm_pick γ κ (bm_sw x d L S σ l) = κ (bm_tg x d l) L S σ
  | [] => rfl
  | (v, t) :: l => by
    show cond (decide (x = nI v.toNat)) (κ t.toNat L S σ) (bm_pick γ κ (bm_sw x d L S σ l)) = κ (if x = nI v.toNat then t.toNat else bm_tg x d l) L S σ
    rw [bm_sw_tg l]
    by_cases h : x = nI v.toNat
    · rw [if_pos h, decide_eq_true h]; rfl
    · rw [if_neg h, decide_eq_false h]; rfl
theorem bm_nI_iff {x : Int32} {v : Int} (h0 : 0 ≤ v) (h1 : v < 2147483648) : x = nI v.toNat ↔ x.toInt = v := by
  have h2 : (nI v.toNat).toInt = v := by
    rw [nI_toInt (by omega)]
    omega
  constructor
  · intro h; rw [h, h2]
  · intro h
    exact Int32.toInt_inj.mp (by rw [h, h2])
theorem bm_tsw_tg {M : Nat} {pc : Int} {x : Int32} {d : Nat} : ∀ (l : List (Int × Int)) (os : List Int) (v : Int), bm_tsw M pc v l os = true → 0 ≤ v → v + l.length ≤ 2147483648 →
    (∃ (j : Nat) (off : Int), j < l.length ∧ x.toInt = v + j ∧ os[j]? = some off ∧ pc + off = (bm_pc M (bm_tg x d l) : Int)) ∨ ((x.toInt < v ∨ v + l.length ≤ x.toInt) ∧ bm_tg x d l = d)
  | [], [], v, _, _, _ => Or.inr ⟨by simp; omega, rfl⟩
  | [], _ :: _, v, h, _, _ => by cases h
  | _ :: _, [], v, h, _, _ => by cases h
  | (a, t) :: l, o :: os, v, h, h0, h1 => by
    simp only [bm_tsw, Bool.and_eq_true, decide_eq_true_eq] at h
    obtain ⟨⟨e1, e2⟩, h⟩ := h
    subst e1
    simp only [List.length_cons] at h1 ⊢
    by_cases hx : x.toInt = a
    · refine Or.inl ⟨0, o, by omega, by omega, rfl, ?_⟩
      rw [e2]
      show _ = ((bm_pc M (if x = nI a.toNat then t.toNat else bm_tg x d l) : Nat) : Int)
      rw [if_pos ((bm_nI_iff h0 (by omega)).mpr hx)]
    · have hn : ¬ x = nI a.toNat := fun q => hx ((bm_nI_iff h0 (by omega)).mp q)
      have ht : bm_tg x d ((a, t) :: l) = bm_tg x d l := if_neg hn
      rw [ht]
      rcases bm_tsw_tg (x := x) (d := d) l os (a + 1) h (by omega) (by omega) with ⟨j, off, g1, g2, g3, g4⟩ | ⟨g1, g2⟩
      · exact Or.inl ⟨j + 1, off, by omega, by omega, by simpa using g3, g4⟩
      · refine Or.inr ⟨?_, g2⟩
        rcases g1 with g1 | g1
        · exact Or.inl (by omega)
        · exact Or.inr (by omega)
theorem bm_lsw_tg {M : Nat} {pc dd : Int} {x : Int32} {d : Nat} (hd : pc + dd = (bm_pc M d : Int)) : ∀ (l os : List (Int × Int)), bm_lsw M pc l os = true → pc + Op.lookupswitch.offset os dd x.toInt = (bm_pc M (bm_tg x d l) : Int)
  | [], [], _ => hd
  | [], _ :: _, h => by cases h
  | _ :: _, [], h => by cases h
  | (a, t) :: l, (b, o) :: os, h => by
    simp only [bm_lsw, Bool.and_eq_true, decide_eq_true_eq] at h
    obtain ⟨⟨⟨⟨e1, e2⟩, e3⟩, e4⟩, h⟩ := h
    subst e1
    rw [Op.lookupswitch.offset_cons]
    by_cases hx : x.toInt = a
    · rw [if_pos hx.symm, e4]
      show _ = ((bm_pc M (if x = nI a.toNat then t.toNat else bm_tg x d l) : Nat) : Int)
      rw [if_pos ((bm_nI_iff e2 e3).mpr hx)]
    · have hn : ¬ x = nI a.toNat := fun q => hx ((bm_nI_iff e2 e3).mp q)
      have ht : bm_tg x d ((a, t) :: l) = bm_tg x d l := if_neg hn
      rw [ht, if_neg (fun q => hx q.symm)]
      exact bm_lsw_tg hd l os h
theorem bs_switch (C : (bm_Ctx dC dI ad cI cJ A X fm p R s m args c cells slots M)) {d : Int} {ps : Array (Int × Int)} (hf : bm_fact M pc (.lookupswitch d ps)) {x : Int32} (k : (bm_Wg l dC dI ad cI cJ A fm p e R s m args below meth c cells slots Q M (bm_tg x d.toNat ps.toList) (L) (S) (σ))) : (bm_Wg l dC dI ad cI cJ A fm p e R s m args below meth c cells slots Q M (pc) (L) (.int x :: S) (σ)) := by
  obtain ⟨hx, hb, hml, hown, hts, hK, hD, hRO, hfm, hR1, hR2, hR3, hR4⟩ := C
  obtain ⟨hd, hr⟩ := hf
  generalize (bm_nthT (bm_rcd M) pc).2 = q at hd hr
  obtain ⟨real, len⟩ := q
  intro H locs ls hP hS hL
  have k := k H locs ls hP hS hL
  simp only [bm_rel] at hr
  split at hr
  · simp only [Bool.and_eq_true, decide_eq_true_eq] at hr
    obtain ⟨⟨⟨⟨e1, e2⟩, e3⟩, e4⟩, e5⟩ := hr
    rcases bm_tsw_tg (x := x) (d := d.toNat) _ _ _ e5 e2 (by omega) with ⟨j, off, g1, g2, g3, g4⟩ | ⟨g1, g2⟩
    · refine lv_tableIn hx hb hd (by omega) (by omega) (off := off) ?_ g4 k
      rw [show (x.toInt - _).toNat = j by omega]
      simpa using g3
    · rw [g2] at k
      exact lv_tableOut hx hb hd (by rcases g1 with g1 | g1; exact Or.inl g1; exact Or.inr (by omega)) e1 k
  · simp only [Bool.and_eq_true, decide_eq_true_eq] at hr
    obtain ⟨⟨e1, e2⟩, e3⟩ := hr
    exact lv_lookup hx hb hd e2 rfl (bm_lsw_tg (x := x) e1 _ _ e3) k
  · cases hr
end BT
