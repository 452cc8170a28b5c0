set_option maxHeartbeats 4000000 in
set_option maxRecDepth 100000 in
theorem law_loop {p : Program} {l : Launch} {e : Env} {s : State} {m : MethodId} {below : List Frame} {meth : Method} {c : Code} {b L : Nat} {xs : Nat → Int32} {dC : Nat → ClassId} {dI : Nat → Nat → Nat} {cI cJ cZ cQ : ClassId} {t : Nat} {a : Nat → Nat} {A : Nat → Prop} (X : LFix p s m meth c b L xs dC dI cI cJ cZ cQ t a A) : ∀ (n i : Nat), i ≤ L → L + 1 ≤ i + n → ∀ (H : Heap) (locs : List Loc) (ls : Array Slot), LInv dC dI cI cJ cZ cQ a A b i s H locs ls → W p l e room_1 s m #[Value.ref b] below meth c H locs 45 2481 (lw_Z below #[Value.ref b] s) (F0 m 18 ls []) := by
  intro n
  induction n with
  | zero =>
    intro i h1 h2
    exact absurd h2 (by omega)
  | succ n ihn =>
    intro i hi0 hin H locs ls hI
    obtain ⟨⟨hx, hb, hr, hml, hown0, hts0, hX, hbl, hlocks, hgv⟩, hK, hG, hD, hA, hA2, hL⟩ := id X
    have hbA : ¬ A b := fun h => absurd (hA2 b h) (Nat.not_le.mpr hbl)
    have ih : i + 5 ≤ L → ∀ (H : Heap) (locs : List Loc) (ls : Array Slot), LInv dC dI cI cJ cZ cQ a A b i s H locs ls → W p l e room_1 s m #[Value.ref b] below meth c H locs 45 2481 (lw_Z below #[Value.ref b] s) (F0 m 904 ls []) := by
      intro h5 H locs ls hI
      obtain ⟨nf, so, cm, cs, fd, tl, ql, d, tr, wa, cl, ck, nx, ac, tc, th, pl, z1, z2, z3, z4, sd, tb, tx, qb, qu, s1, kn, mo, ts, td, ta, l0, l1, l2, l3, ro, km, ik, mw, pg, bk, kp, mi, ms, md, my, ye, no, fo, st, on, tw, t3, se, bs, hR, hP, hS, hl⟩ := hI
      have e5 : Int32.ofInt 5 = nI 5 := by decide
      refine lv_iinc (v := nI (i + 5)) (lv' := [(3, .int (nI (i + 5))), (0, .ref b), (1, .ref (a 0)), (2, .ref (a 27))]) hx hb dL_law_904 hl (k := 3) rfl (by rw [e5]; exact nI_add i 5) (by decide) rfl (fun ls hl => ?_)
      refine lv_goto (tgt := 18) hx hb dL_law_907 (by decide) ?_
      exact ihn (i + 5) h5 (by omega) _ _ _ ⟨nf, so, cm, cs, fd, tl, ql, d, tr, wa, cl, ck, nx, ac, tc, th, pl, z1, z2, z3, z4, sd, tb, tx, qb, qu, s1, kn, mo, ts, td, ta, l0, l1, l2, l3, ro, km, ik, mw, pg, bk, kp, mi, ms, md, my, ye, no, fo, st, on, tw, t3, se, bs, hR, hP, hS, lv_sub hl [1, 2, 3, 0] rfl⟩
    have hI0 := hI
    obtain ⟨nf, so, cm, cs, fd, tl, ql, d, tr, wa, cl, ck, nx, ac, tc, th, pl, z1, z2, z3, z4, sd, tb, tx, qb, qu, s1, kn, mo, ts, td, ta, l0, l1, l2, l3, ro, km, ik, mw, pg, bk, kp, mi, ms, md, my, ye, no, fo, st, on, tw, t3, se, bs, hR, hP, hS, hl⟩ := hI
    refine lv_iload_n hx hb dL_law_18 rfl (lv_at hl 3 rfl) ?_
    refine lv_aload_n hx hb dL_law_19 rfl (lv_at hl 0 rfl) ?_
    refine va_slen hx hb hX hbl hbA hS dL_law_20 ?_
    refine lv_iconst (v := (5 : Int32)) hx hb dL_law_21 (by decide) ?_
    refine lv_isub hx hb dL_law_22 ?_
    refine lv_icmp_gt (tgt := 910) hx hb dL_law_23 (by decide) (fun _ => ?_) (fun c5 => ?_)
    · refine lv_iconst (v := 1) hx hb dL_law_910 (by decide) ?_
      refine va_forget (fun q hq => hA2 _ (hS.2.2 q hq)) ?_
      refine W.widen (k := 600000) (n := 7302250) (Nat.le_of_ble_eq_true rfl) (Nat.le_of_ble_eq_true rfl) ?_
      exact lw_ret hx hb hr hlocks dL_law_911
    · have h5 := lw_gt hL hi0 c5
      refine lv_aload_n hx hb dL_law_26 rfl (lv_at hl 0 rfl) ?_
      refine lv_iload_n hx hb dL_law_27 rfl (lv_at hl 3 rfl) ?_
      refine va_sld hx hb hX hbl hbA hS (lw_in0 h5 hL) dL_law_28 ?_
      refine lv_bipush (v := (31 : Int32)) hx hb dL_law_29 (by decide) ?_
      refine lv_iand hx hb dL_law_31 ?_
      obtain ⟨k, hk, ek⟩ := lw_and31 (xs (Int32.toNatClampNeg (nI i)))
      rw [ek]
      by_cases h29 : k < 29
      · rcases (show k = 0 ∨ k = 1 ∨ k = 2 ∨ k = 3 ∨ k = 4 ∨ k = 5 ∨ k = 6 ∨ k = 7 ∨ k = 8 ∨ k = 9 ∨ k = 10 ∨ k = 11 ∨ k = 12 ∨ k = 13 ∨ k = 14 ∨ k = 15 ∨ k = 16 ∨ k = 17 ∨ k = 18 ∨ k = 19 ∨ k = 20 ∨ k = 21 ∨ k = 22 ∨ k = 23 ∨ k = 24 ∨ k = 25 ∨ k = 26 ∨ k = 27 ∨ k = 28 by omega) with rfl | rfl | rfl | rfl | rfl | rfl | rfl | rfl | rfl | rfl | rfl | rfl | rfl | rfl | rfl | rfl | rfl | rfl | rfl | rfl | rfl | rfl | rfl | rfl | rfl | rfl | rfl | rfl | rfl
        · refine lv_tableIn (tgt := 164) hx hb dL_law_32 (by decide) (by decide) rfl (by decide) ?_
          exact lc_write X h5 (ih h5) hI0
        · refine lv_tableIn (tgt := 187) hx hb dL_law_32 (by decide) (by decide) rfl (by decide) ?_
          exact lc_wipe X h5 (ih h5) hI0
        · refine lv_tableIn (tgt := 200) hx hb dL_law_32 (by decide) (by decide) rfl (by decide) ?_
          exact lc_fault X h5 (ih h5) hI0
        · refine lv_tableIn (tgt := 213) hx hb dL_law_32 (by decide) (by decide) rfl (by decide) ?_
          exact lc_castle X h5 (ih h5) hI0
        · refine lv_tableIn (tgt := 226) hx hb dL_law_32 (by decide) (by decide) rfl (by decide) ?_
          exact lc_quill X h5 (ih h5) hI0
        · refine lv_tableIn (tgt := 249) hx hb dL_law_32 (by decide) (by decide) rfl (by decide) ?_
          exact lc_blot X h5 (ih h5) hI0
        · refine lv_tableIn (tgt := 262) hx hb dL_law_32 (by decide) (by decide) rfl (by decide) ?_
          exact lc_slip X h5 (ih h5) hI0
        · refine lv_tableIn (tgt := 275) hx hb dL_law_32 (by decide) (by decide) rfl (by decide) ?_
          exact lc_about X h5 (ih h5) hI0
        · refine lv_tableIn (tgt := 298) hx hb dL_law_32 (by decide) (by decide) rfl (by decide) ?_
          exact lc_fact X h5 (ih h5) hI0
        · refine lv_tableIn (tgt := 331) hx hb dL_law_32 (by decide) (by decide) rfl (by decide) ?_
          exact lc_ask X h5 (ih h5) hI0
        · refine lv_tableIn (tgt := 344) hx hb dL_law_32 (by decide) (by decide) rfl (by decide) ?_
          exact lc_day X h5 (ih h5) hI0
        · refine lv_tableIn (tgt := 357) hx hb dL_law_32 (by decide) (by decide) rfl (by decide) ?_
          exact lc_cloth X h5 (ih h5) hI0
        · refine lv_tableIn (tgt := 370) hx hb dL_law_32 (by decide) (by decide) rfl (by decide) ?_
          exact lc_undo X h5 (ih h5) hI0
        · refine lv_tableIn (tgt := 383) hx hb dL_law_32 (by decide) (by decide) rfl (by decide) ?_
          exact lc_answer X h5 (ih h5) hI0
        · refine lv_tableIn (tgt := 416) hx hb dL_law_32 (by decide) (by decide) rfl (by decide) ?_
          exact lc_parts X h5 (ih h5) hI0
        · refine lv_tableIn (tgt := 439) hx hb dL_law_32 (by decide) (by decide) rfl (by decide) ?_
          exact lc_simpleParts X h5 (ih h5) hI0
        · refine lv_tableIn (tgt := 472) hx hb dL_law_32 (by decide) (by decide) rfl (by decide) ?_
          exact lc_toAsk X h5 (ih h5) hI0
        · refine lv_tableIn (tgt := 485) hx hb dL_law_32 (by decide) (by decide) rfl (by decide) ?_
          exact lc_dumb X h5 (ih h5) hI0
        · refine lv_tableIn (tgt := 498) hx hb dL_law_32 (by decide) (by decide) rfl (by decide) ?_
          exact lc_tells X h5 (ih h5) hI0
        · refine lv_tableIn (tgt := 541) hx hb dL_law_32 (by decide) (by decide) rfl (by decide) ?_
          exact lc_choice X h5 (ih h5) hI0
        · refine lv_tableIn (tgt := 614) hx hb dL_law_32 (by decide) (by decide) rfl (by decide) ?_
          exact lc_both X h5 (ih h5) hI0
        · refine lv_tableIn (tgt := 637) hx hb dL_law_32 (by decide) (by decide) rfl (by decide) ?_
          exact lc_tell X h5 (ih h5) hI0
        · refine lv_tableIn (tgt := 696) hx hb dL_law_32 (by decide) (by decide) rfl (by decide) ?_
          exact lc_untell X h5 (ih h5) hI0
        · refine lv_tableIn (tgt := 709) hx hb dL_law_32 (by decide) (by decide) rfl (by decide) ?_
          exact lc_march X h5 (ih h5) hI0
        · refine lv_tableIn (tgt := 732) hx hb dL_law_32 (by decide) (by decide) rfl (by decide) ?_
          exact lc_likely X h5 (ih h5) hI0
        · refine lv_tableIn (tgt := 781) hx hb dL_law_32 (by decide) (by decide) rfl (by decide) ?_
          exact lc_seed X h5 (ih h5) hI0
        · refine lv_tableIn (tgt := 835) hx hb dL_law_32 (by decide) (by decide) rfl (by decide) ?_
          exact lc_year X h5 (ih h5) hI0
        · refine lv_tableIn (tgt := 858) hx hb dL_law_32 (by decide) (by decide) rfl (by decide) ?_
          exact lc_keep X h5 (ih h5) hI0
        · refine lv_tableIn (tgt := 881) hx hb dL_law_32 (by decide) (by decide) rfl (by decide) ?_
          exact lc_again X h5 (ih h5) hI0
      · refine lv_tableOut (tgt := 904) hx hb dL_law_32 (Or.inr ?_) (by decide) ?_
        · rcases (show k = 29 ∨ k = 30 ∨ k = 31 by omega) with rfl | rfl | rfl <;> decide
        · exact ih h5 _ _ _ hI0
