def TR (h : zH) (B : Int → Int) (L F Q : Int) : Prop := h 108 6 = L ∧ (∀ i, 0 ≤ i → i < L → h 113 i = B i) ∧ h 108 14 = F ∧ h 108 15 = Q
theorem TR.of {h h' : zH} {B : Int → Int} {L F Q : Int} (R : TR h B L F Q) (e : ∀ k j, (k = 108 ∧ (j = 6 ∨ j = 14 ∨ j = 15)) ∨ k = 113 → h' k j = h k j) : TR h' B L F Q :=
  ⟨(e _ _ (by omega)).trans R.1, fun i i0 i1 => (e _ _ (by omega)).trans (R.2.1 i i0 i1), (e _ _ (by omega)).trans R.2.2.1, (e _ _ (by omega)).trans R.2.2.2⟩
theorem TR.fr {S : Int → Int → Prop} {h h' : zH} {B : Int → Int} {L F Q : Int} (R : TR h B L F Q) (f : Fr S h h') (hn : ∀ k j, S k j → ¬ ((k = 108 ∧ (j = 6 ∨ j = 14 ∨ j = 15)) ∨ k = 113)) : TR h' B L F Q := R.of (fun k j a => f k j (fun z => hn k j z a))
theorem q_fault {d : Nat} {h : zH} {B : Int → Int} {L F Q x : Int} (R : TR h B L F Q) : zMI d mX10_fault [zA 108, zI x] h (fun r h' => r = a_fault F Q x ∧ Fr (fun k j => k = 108 ∧ j = 0) h h') := by
  refine zmet rfl rfl rfl ?_
  refine zS_aload_n (zdec eX10_fault 0 rfl) rfl rfl ?_
  refine zS_iconst (zdec eX10_fault 1 rfl) rfl ?_
  refine zS_putfield (x := 0) (zdec eX10_fault 2 rfl) kF_X10_71 (Or.inl kf10_0) ⟨by decide, rfl⟩ rfl rfl rfl (Or.inl (fun q => by cases q)) ?_
  obtain ⟨h0, E0⟩ : ∃ x, x = zset h 108 0 0 := ⟨_, rfl⟩
  rw [show zset h 108 0 (0 : Int) = h0 from E0.symm]
  have f0 : Fr (fun k j => k = 108 ∧ j = 0) h h0 := by rw [E0]; exact Fr.rf.set ⟨rfl, rfl⟩
  have R0 : TR h0 B L F Q := R.fr f0 (fun k j z => by omega)
  refine zS_iload_n (zdec eX10_fault 3 rfl) rfl ?_
  refine zS_if_ne (tgt := 16) (zdec eX10_fault 4 rfl) rfl (fun c1 => ?_) (fun c1 => ?_)
  · refine zS_iload_n (zdec eX10_fault 8 rfl) rfl ?_
    refine zS_iconst (zdec eX10_fault 9 rfl) rfl ?_
    refine zS_icmp_ne (tgt := 28) (zdec eX10_fault 10 rfl) rfl (fun c2 => ?_) (fun c2 => ?_)
    · refine zS_iconst (zdec eX10_fault 14 rfl) rfl ?_
      exact zlMI (zdec eX10_fault 15 rfl) rfl ⟨by unfold a_fault; rw [if_neg (by omega), if_neg (by omega)], f0⟩
    · refine zS_aload_n (zdec eX10_fault 11 rfl) rfl rfl ?_
      refine zS_getfieldE (x := 15) (v := Q) (zdec eX10_fault 12 rfl) kF_X10_27 ⟨by decide, rfl⟩ rfl rfl rfl R0.2.2.2 ?_
      refine zS_goto (tgt := 29) (zdec eX10_fault 13 rfl) rfl ?_
      exact zlMI (zdec eX10_fault 15 rfl) rfl ⟨by unfold a_fault; rw [if_neg (by omega), if_pos (by omega)], f0⟩
  · refine zS_aload_n (zdec eX10_fault 5 rfl) rfl rfl ?_
    refine zS_getfieldE (x := 14) (v := F) (zdec eX10_fault 6 rfl) kF_X10_150 ⟨by decide, rfl⟩ rfl rfl rfl R0.2.2.1 ?_
    refine zS_goto (tgt := 29) (zdec eX10_fault 7 rfl) rfl ?_
    exact zlMI (zdec eX10_fault 15 rfl) rfl ⟨by unfold a_fault; rw [if_pos (by omega)], f0⟩
theorem q_end {d : Nat} {h : zH} {B : Int → Int} {L F Q x : Int} (hd : 200 ≤ d) (R : TR h B L F Q) : zMI d mX10_end [zA 108, zI x] h (fun r h' => r = a_end L x ∧ TR h' B (n_end L x) F Q ∧ Fr (fun k j => k = 108 ∧ (j = 0 ∨ j = 6)) h h') := by
  refine zmet rfl rfl rfl ?_
  refine zS_aload_n (zdec eX10_end 0 rfl) rfl rfl ?_
  refine zS_iconst (zdec eX10_end 1 rfl) rfl ?_
  refine zS_putfield (x := 0) (zdec eX10_end 2 rfl) kF_X10_71 (Or.inl kf10_0) ⟨by decide, rfl⟩ rfl rfl rfl (Or.inl (fun q => by cases q)) ?_
  obtain ⟨h0, E0⟩ : ∃ x, x = zset h 108 0 0 := ⟨_, rfl⟩
  rw [show zset h 108 0 (0 : Int) = h0 from E0.symm]
  have f0 : Fr (fun k j => k = 108 ∧ j = 0) h h0 := by rw [E0]; exact Fr.rf.set ⟨rfl, rfl⟩
  have R0 : TR h0 B L F Q := R.fr f0 (fun k j z => by omega)
  refine zS_iload_n (zdec eX10_end 3 rfl) rfl ?_
  refine zS_i2l (zdec eX10_end 4 rfl) ?_
  refine zS_lconst (zdec eX10_end 5 rfl) ?_
  refine zS_aload_n (zdec eX10_end 6 rfl) rfl rfl ?_
  refine zS_getfieldE (x := 6) (v := L) (zdec eX10_end 7 rfl) kF_X10_88 ⟨by decide, rfl⟩ rfl rfl rfl R0.1 ?_
  refine zS_i2l (zdec eX10_end 8 rfl) ?_
  refine zsI (M' := mX10_in) (As := [zJ x, zJ 0, zJ L]) (st := []) (zdec eX10_end 9 rfl) kM_X10_76 kS_X10_in rfl rfl rfl (by omega) r_in ?_
  refine zS_if_ne (tgt := 21) (zdec eX10_end 10 rfl) rfl (fun c1 => ?_) (fun c1 => ?_)
  · have z1 := d2i_n.mp c1
    refine zS_aload_n (zdec eX10_end 13 rfl) rfl rfl ?_
    refine zS_iload_n (zdec eX10_end 14 rfl) rfl ?_
    refine zS_putfield (x := 6) (zdec eX10_end 15 rfl) kF_X10_88 (Or.inl kf10_6) ⟨by decide, rfl⟩ rfl rfl rfl (Or.inl (fun q => by cases q)) ?_
    refine zS_iload_n (zdec eX10_end 16 rfl) rfl ?_
    exact zlMI (zdec eX10_end 17 rfl) rfl ⟨by unfold a_end; rw [if_pos (by omega)], by unfold n_end; rw [if_pos (by omega)]; exact ⟨zset_s _ _ _ _, fun i i0 i1 => by rw [zset_n (by omega)]; exact R0.2.1 i i0 (by omega), by rw [zset_n (by omega)]; exact R0.2.2.1, by rw [zset_n (by omega)]; exact R0.2.2.2⟩, (f0.mono (fun k j z => by omega)).set (by omega)⟩
  · have z1 := d2i_0.mp c1
    refine zS_iconst (zdec eX10_end 11 rfl) rfl ?_
    exact zlMI (zdec eX10_end 12 rfl) rfl ⟨by unfold a_end; rw [if_neg (by omega)], by unfold n_end; rw [if_neg (by omega)]; exact R0, f0.mono (fun k j z => by omega)⟩
theorem r_four {d : Nat} {h : zH} {B : Int → Int} {L F Q x : Int} (R : TR h B L F Q) (l0 : 0 ≤ L) (l1 : L + 4 ≤ 700) : zMV d mX10_four [zA 108, zI x] h (fun h' => TR h' (adB B L x) (L + 4) F Q ∧ Fr (fun k j => (k = 108 ∧ j = 6) ∨ k = 113) h h') := by
  refine zmet rfl rfl rfl ?_
  refine zS_bipush (zdec eX10_four 0 rfl) rfl rfl ?_
  refine zS_istore_n (zdec eX10_four 1 rfl) rfl ?_
  refine zS_iload_n (zdec eX10_four 2 rfl) rfl ?_
  refine zS_if_lt (tgt := 36) (zdec eX10_four 3 rfl) rfl (fun cz => absurd cz (by decide)) (fun cz => ?_)
  refine zS_aload_n (zdec eX10_four 4 rfl) rfl rfl ?_
  refine zS_getref (i := 59) (zdec eX10_four 5 rfl) kF_X10_23 ⟨by decide, rfl⟩ rfl rfl rfl rfl rfl ?_
  refine zS_aload_n (zdec eX10_four 6 rfl) rfl rfl ?_
  refine zS_getfieldE (x := 6) (v := L) (zdec eX10_four 7 rfl) kF_X10_88 ⟨by decide, rfl⟩ rfl rfl rfl R.1 ?_
  refine zS_iload_n (zdec eX10_four 8 rfl) rfl ?_
  refine zS_iload_n (zdec eX10_four 9 rfl) rfl ?_
  refine zS_ishr (zdec eX10_four 10 rfl) ?_
  refine zS_i2b (zdec eX10_four 11 rfl) ?_
  refine zS_bastore (zdec eX10_four 12 rfl) (Or.inl ⟨rfl, (zB8_rng _).1, (zB8_rng _).2⟩) ⟨by decide, rfl⟩ (by omega) (by omega) ?_
  refine zS_aload_n (zdec eX10_four 13 rfl) rfl rfl ?_
  refine zS_dup (zdec eX10_four 14 rfl) (fun q => by cases q) ?_
  refine zS_getfieldE (x := 6) (v := L) (zdec eX10_four 15 rfl) kF_X10_88 ⟨by decide, rfl⟩ rfl rfl rfl ((congrFun (zset_k (by decide)) _).trans R.1) ?_
  refine zS_iconst (zdec eX10_four 16 rfl) rfl ?_
  refine zS_iadd (zdec eX10_four 17 rfl) ⟨by omega, by omega⟩ ?_
  refine zS_putfield (x := 6) (zdec eX10_four 18 rfl) kF_X10_88 (Or.inl kf10_6) ⟨by decide, rfl⟩ rfl rfl rfl (Or.inl (fun q => by cases q)) ?_
  refine zS_iinc (zdec eX10_four 19 rfl) rfl rfl (zR_of rfl) ?_
  refine zS_goto (tgt := 3) (zdec eX10_four 20 rfl) rfl ?_
  refine zS_iload_n (zdec eX10_four 2 rfl) rfl ?_
  refine zS_if_lt (tgt := 36) (zdec eX10_four 3 rfl) rfl (fun cz => absurd cz (by decide)) (fun cz => ?_)
  refine zS_aload_n (zdec eX10_four 4 rfl) rfl rfl ?_
  refine zS_getref (i := 59) (zdec eX10_four 5 rfl) kF_X10_23 ⟨by decide, rfl⟩ rfl rfl rfl rfl rfl ?_
  refine zS_aload_n (zdec eX10_four 6 rfl) rfl rfl ?_
  refine zS_getfieldE (x := 6) (v := (L + 1)) (zdec eX10_four 7 rfl) kF_X10_88 ⟨by decide, rfl⟩ rfl rfl rfl (zset_s _ _ _ _) ?_
  refine zS_iload_n (zdec eX10_four 8 rfl) rfl ?_
  refine zS_iload_n (zdec eX10_four 9 rfl) rfl ?_
  refine zS_ishr (zdec eX10_four 10 rfl) ?_
  refine zS_i2b (zdec eX10_four 11 rfl) ?_
  refine zS_bastore (zdec eX10_four 12 rfl) (Or.inl ⟨rfl, (zB8_rng _).1, (zB8_rng _).2⟩) ⟨by decide, rfl⟩ (by omega) (by omega) ?_
  refine zS_aload_n (zdec eX10_four 13 rfl) rfl rfl ?_
  refine zS_dup (zdec eX10_four 14 rfl) (fun q => by cases q) ?_
  refine zS_getfieldE (x := 6) (v := (L + 1)) (zdec eX10_four 15 rfl) kF_X10_88 ⟨by decide, rfl⟩ rfl rfl rfl ((congrFun (zset_k (by decide)) _).trans (zset_s _ _ _ _)) ?_
  refine zS_iconst (zdec eX10_four 16 rfl) rfl ?_
  refine zS_iadd (zdec eX10_four 17 rfl) ⟨by omega, by omega⟩ ?_
  refine zS_putfield (x := 6) (zdec eX10_four 18 rfl) kF_X10_88 (Or.inl kf10_6) ⟨by decide, rfl⟩ rfl rfl rfl (Or.inl (fun q => by cases q)) ?_
  refine zS_iinc (zdec eX10_four 19 rfl) rfl rfl (zR_of rfl) ?_
  refine zS_goto (tgt := 3) (zdec eX10_four 20 rfl) rfl ?_
  refine zS_iload_n (zdec eX10_four 2 rfl) rfl ?_
  refine zS_if_lt (tgt := 36) (zdec eX10_four 3 rfl) rfl (fun cz => absurd cz (by decide)) (fun cz => ?_)
  refine zS_aload_n (zdec eX10_four 4 rfl) rfl rfl ?_
  refine zS_getref (i := 59) (zdec eX10_four 5 rfl) kF_X10_23 ⟨by decide, rfl⟩ rfl rfl rfl rfl rfl ?_
  refine zS_aload_n (zdec eX10_four 6 rfl) rfl rfl ?_
  refine zS_getfieldE (x := 6) (v := ((L + 1) + 1)) (zdec eX10_four 7 rfl) kF_X10_88 ⟨by decide, rfl⟩ rfl rfl rfl (zset_s _ _ _ _) ?_
  refine zS_iload_n (zdec eX10_four 8 rfl) rfl ?_
  refine zS_iload_n (zdec eX10_four 9 rfl) rfl ?_
  refine zS_ishr (zdec eX10_four 10 rfl) ?_
  refine zS_i2b (zdec eX10_four 11 rfl) ?_
  refine zS_bastore (zdec eX10_four 12 rfl) (Or.inl ⟨rfl, (zB8_rng _).1, (zB8_rng _).2⟩) ⟨by decide, rfl⟩ (by omega) (by omega) ?_
  refine zS_aload_n (zdec eX10_four 13 rfl) rfl rfl ?_
  refine zS_dup (zdec eX10_four 14 rfl) (fun q => by cases q) ?_
  refine zS_getfieldE (x := 6) (v := ((L + 1) + 1)) (zdec eX10_four 15 rfl) kF_X10_88 ⟨by decide, rfl⟩ rfl rfl rfl ((congrFun (zset_k (by decide)) _).trans (zset_s _ _ _ _)) ?_
  refine zS_iconst (zdec eX10_four 16 rfl) rfl ?_
  refine zS_iadd (zdec eX10_four 17 rfl) ⟨by omega, by omega⟩ ?_
  refine zS_putfield (x := 6) (zdec eX10_four 18 rfl) kF_X10_88 (Or.inl kf10_6) ⟨by decide, rfl⟩ rfl rfl rfl (Or.inl (fun q => by cases q)) ?_
  refine zS_iinc (zdec eX10_four 19 rfl) rfl rfl (zR_of rfl) ?_
  refine zS_goto (tgt := 3) (zdec eX10_four 20 rfl) rfl ?_
  refine zS_iload_n (zdec eX10_four 2 rfl) rfl ?_
  refine zS_if_lt (tgt := 36) (zdec eX10_four 3 rfl) rfl (fun cz => absurd cz (by decide)) (fun cz => ?_)
  refine zS_aload_n (zdec eX10_four 4 rfl) rfl rfl ?_
  refine zS_getref (i := 59) (zdec eX10_four 5 rfl) kF_X10_23 ⟨by decide, rfl⟩ rfl rfl rfl rfl rfl ?_
  refine zS_aload_n (zdec eX10_four 6 rfl) rfl rfl ?_
  refine zS_getfieldE (x := 6) (v := (((L + 1) + 1) + 1)) (zdec eX10_four 7 rfl) kF_X10_88 ⟨by decide, rfl⟩ rfl rfl rfl (zset_s _ _ _ _) ?_
  refine zS_iload_n (zdec eX10_four 8 rfl) rfl ?_
  refine zS_iload_n (zdec eX10_four 9 rfl) rfl ?_
  refine zS_ishr (zdec eX10_four 10 rfl) ?_
  refine zS_i2b (zdec eX10_four 11 rfl) ?_
  refine zS_bastore (zdec eX10_four 12 rfl) (Or.inl ⟨rfl, (zB8_rng _).1, (zB8_rng _).2⟩) ⟨by decide, rfl⟩ (by omega) (by omega) ?_
  refine zS_aload_n (zdec eX10_four 13 rfl) rfl rfl ?_
  refine zS_dup (zdec eX10_four 14 rfl) (fun q => by cases q) ?_
  refine zS_getfieldE (x := 6) (v := (((L + 1) + 1) + 1)) (zdec eX10_four 15 rfl) kF_X10_88 ⟨by decide, rfl⟩ rfl rfl rfl ((congrFun (zset_k (by decide)) _).trans (zset_s _ _ _ _)) ?_
  refine zS_iconst (zdec eX10_four 16 rfl) rfl ?_
  refine zS_iadd (zdec eX10_four 17 rfl) ⟨by omega, by omega⟩ ?_
  refine zS_putfield (x := 6) (zdec eX10_four 18 rfl) kF_X10_88 (Or.inl kf10_6) ⟨by decide, rfl⟩ rfl rfl rfl (Or.inl (fun q => by cases q)) ?_
  refine zS_iinc (zdec eX10_four 19 rfl) rfl rfl (zR_of rfl) ?_
  refine zS_goto (tgt := 3) (zdec eX10_four 20 rfl) rfl ?_
  refine zS_iload_n (zdec eX10_four 2 rfl) rfl ?_
  refine zS_if_lt (tgt := 36) (zdec eX10_four 3 rfl) rfl (fun cz => ?_) (fun cz => absurd (by decide) cz)
  refine zlMV (zdec eX10_four 21 rfl) rfl ⟨⟨?_, fun i i0 i1 => ?_, ?_, ?_⟩, ?_⟩
  · rw [zset_s]; omega
  · unfold adB
    by_cases w3 : i = L + 3
    · rw [if_neg (by omega), if_neg (by omega), if_neg (by omega), if_pos w3, zset_n (by omega), zset_e rfl (by omega)]; rfl
    · by_cases w2 : i = L + 2
      · rw [if_neg (by omega), if_neg (by omega), if_pos w2, zset_n (by omega), zset_n (by omega), zset_n (by omega), zset_e rfl (by omega)]; rfl
      · by_cases w1 : i = L + 1
        · rw [if_neg (by omega), if_pos w1, zset_n (by omega), zset_n (by omega), zset_n (by omega), zset_n (by omega), zset_n (by omega), zset_e rfl (by omega)]; rfl
        · by_cases w0 : i = L
          · rw [if_pos w0, zset_n (by omega), zset_n (by omega), zset_n (by omega), zset_n (by omega), zset_n (by omega), zset_n (by omega), zset_n (by omega), zset_e rfl w0]
          · rw [if_neg w0, if_neg w1, if_neg w2, if_neg w3, zset_n (by omega), zset_n (by omega), zset_n (by omega), zset_n (by omega), zset_n (by omega), zset_n (by omega), zset_n (by omega), zset_n (by omega)]; exact R.2.1 i i0 (by omega)
  · rw [zset_n (by omega), zset_n (by omega), zset_n (by omega), zset_n (by omega), zset_n (by omega), zset_n (by omega), zset_n (by omega), zset_n (by omega)]; exact R.2.2.1
  · rw [zset_n (by omega), zset_n (by omega), zset_n (by omega), zset_n (by omega), zset_n (by omega), zset_n (by omega), zset_n (by omega), zset_n (by omega)]; exact R.2.2.2
  · exact ((((((((Fr.rf.set (by omega)).set (by omega)).set (by omega)).set (by omega)).set (by omega)).set (by omega)).set (by omega)).set (by omega))
theorem q_feed {d : Nat} {h : zH} {B : Int → Int} {L F Q a b c e f : Int} (hd : 200 ≤ d) (R : TR h B L F Q) (l0 : 0 ≤ L ∧ L ≤ 700) : zMI d mX10_feed [zA 108, zI a, zI b, zI c, zI e, zI f] h (fun r h' => r = a_feed L ∧ TR h' (n_feedB B L a b c e f) (n_feedL L) F Q ∧ Fr (fun k j => (k = 108 ∧ (j = 0 ∨ j = 6)) ∨ k = 113) h h') := by
  refine zmet rfl rfl rfl ?_
  refine zS_aload_n (zdec eX10_feed 0 rfl) rfl rfl ?_
  refine zS_iconst (zdec eX10_feed 1 rfl) rfl ?_
  refine zS_putfield (x := 0) (zdec eX10_feed 2 rfl) kF_X10_71 (Or.inl kf10_0) ⟨by decide, rfl⟩ rfl rfl rfl (Or.inl (fun q => by cases q)) ?_
  obtain ⟨h0, E0⟩ : ∃ x, x = zset h 108 0 0 := ⟨_, rfl⟩
  rw [show zset h 108 0 (0 : Int) = h0 from E0.symm]
  have f0 : Fr (fun k j => k = 108 ∧ j = 0) h h0 := by rw [E0]; exact Fr.rf.set ⟨rfl, rfl⟩
  have R0 : TR h0 B L F Q := R.fr f0 (fun k j z => by omega)
  refine zS_aload_n (zdec eX10_feed 3 rfl) rfl rfl ?_
  refine zS_getfieldE (x := 6) (v := L) (zdec eX10_feed 4 rfl) kF_X10_88 ⟨by decide, rfl⟩ rfl rfl rfl R0.1 ?_
  refine zS_bipush (zdec eX10_feed 5 rfl) rfl rfl ?_
  refine zS_iadd (zdec eX10_feed 6 rfl) ⟨by omega, by omega⟩ ?_
  refine zS_sipush (zdec eX10_feed 7 rfl) rfl rfl ?_
  refine zS_icmp_le (tgt := 20) (zdec eX10_feed 8 rfl) rfl (fun c1 => ?_) (fun c1 => ?_)
  · refine zS_aload_n (zdec eX10_feed 11 rfl) rfl rfl ?_
    refine zS_iload_n (zdec eX10_feed 12 rfl) rfl ?_
    refine zvMV (M' := mX10_four) (As := [zI a]) (st := []) (zdec eX10_feed 13 rfl) kM_X10_91 kV_X10_four ⟨by decide, rfl⟩ rfl rfl rfl rfl rfl (by omega) (r_four R0 (by omega) (by omega)) (fun h1 ⟨R1, g1⟩ => ?_)
    have f1 : Fr (fun k j => (k = 108 ∧ (j = 0 ∨ j = 6)) ∨ k = 113) h h1 := f0.tr g1 (fun k j z => by omega) (fun k j z => by omega)
    refine zS_aload_n (zdec eX10_feed 14 rfl) rfl rfl ?_
    refine zS_iload_n (zdec eX10_feed 15 rfl) rfl ?_
    refine zvMV (M' := mX10_four) (As := [zI b]) (st := []) (zdec eX10_feed 16 rfl) kM_X10_91 kV_X10_four ⟨by decide, rfl⟩ rfl rfl rfl rfl rfl (by omega) (r_four R1 (by omega) (by omega)) (fun h2 ⟨R2, g2⟩ => ?_)
    have f2 : Fr (fun k j => (k = 108 ∧ (j = 0 ∨ j = 6)) ∨ k = 113) h h2 := f1.tr g2 (fun k j z => by omega) (fun k j z => by omega)
    rw [show L + 4 + 4 = L + 8 by omega] at R2
    refine zS_aload_n (zdec eX10_feed 17 rfl) rfl rfl ?_
    refine zS_iload_n (zdec eX10_feed 18 rfl) rfl ?_
    refine zvMV (M' := mX10_four) (As := [zI c]) (st := []) (zdec eX10_feed 19 rfl) kM_X10_91 kV_X10_four ⟨by decide, rfl⟩ rfl rfl rfl rfl rfl (by omega) (r_four R2 (by omega) (by omega)) (fun h3 ⟨R3, g3⟩ => ?_)
    have f3 : Fr (fun k j => (k = 108 ∧ (j = 0 ∨ j = 6)) ∨ k = 113) h h3 := f2.tr g3 (fun k j z => by omega) (fun k j z => by omega)
    rw [show L + 8 + 4 = L + 12 by omega] at R3
    refine zS_aload_n (zdec eX10_feed 20 rfl) rfl rfl ?_
    refine zS_iload (zdec eX10_feed 21 rfl) rfl ?_
    refine zvMV (M' := mX10_four) (As := [zI e]) (st := []) (zdec eX10_feed 22 rfl) kM_X10_91 kV_X10_four ⟨by decide, rfl⟩ rfl rfl rfl rfl rfl (by omega) (r_four R3 (by omega) (by omega)) (fun h4 ⟨R4, g4⟩ => ?_)
    have f4 : Fr (fun k j => (k = 108 ∧ (j = 0 ∨ j = 6)) ∨ k = 113) h h4 := f3.tr g4 (fun k j z => by omega) (fun k j z => by omega)
    rw [show L + 12 + 4 = L + 16 by omega] at R4
    refine zS_aload_n (zdec eX10_feed 23 rfl) rfl rfl ?_
    refine zS_iload (zdec eX10_feed 24 rfl) rfl ?_
    refine zvMV (M' := mX10_four) (As := [zI f]) (st := []) (zdec eX10_feed 25 rfl) kM_X10_91 kV_X10_four ⟨by decide, rfl⟩ rfl rfl rfl rfl rfl (by omega) (r_four R4 (by omega) (by omega)) (fun h5 ⟨R5, g5⟩ => ?_)
    have f5 : Fr (fun k j => (k = 108 ∧ (j = 0 ∨ j = 6)) ∨ k = 113) h h5 := f4.tr g5 (fun k j z => by omega) (fun k j z => by omega)
    rw [show L + 16 + 4 = L + 20 by omega] at R5
    refine zS_aload_n (zdec eX10_feed 26 rfl) rfl rfl ?_
    refine zS_getfieldE (x := 6) (v := (L + 20)) (zdec eX10_feed 27 rfl) kF_X10_88 ⟨by decide, rfl⟩ rfl rfl rfl R5.1 ?_
    exact zlMI (zdec eX10_feed 28 rfl) rfl ⟨by unfold a_feed; rw [if_pos (by omega)], by unfold n_feedB n_feedL; rw [if_pos (by omega), if_pos (by omega)]; exact R5, f5⟩
  · refine zS_iconst (zdec eX10_feed 9 rfl) rfl ?_
    exact zlMI (zdec eX10_feed 10 rfl) rfl ⟨by unfold a_feed; rw [if_neg (by omega)], by unfold n_feedB n_feedL; rw [if_neg (by omega), if_neg (by omega)]; exact R0, f0.mono (fun k j z => by omega)⟩
