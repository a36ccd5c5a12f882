set_option maxRecDepth 100000 in
theorem bo_X0_isLost (l : Launch) : ∀ q ∈ bt_X0_isLost, bz_rw bz_P l bm_X0_isLost q := by
  refine bz_ac (show bz_ok RX0 cX0_isLost 0 (bz_iload 1 1) from bz_o_iload_n (k := 1) (i := 1) (by decide +kernel) rfl) ?_
  refine bz_ac (show bz_ok RX0 cX0_isLost 1 (bz_push (.int 10) 2) from bz_o_bipush (n := 10) (v := 10) (by decide +kernel) (by decide)) ?_
  refine bz_ac (show bz_ok RX0 cX0_isLost 3 (bz_irem) from bz_o_irem (by decide +kernel)) ?_
  refine bz_ac (show bz_ok RX0 cX0_isLost 4 (bz_istore 3 1) from bz_o_istore_n (k := 3) (i := 3) (by decide +kernel) rfl) ?_
  refine bz_ac (show bz_ok RX0 cX0_isLost 5 (bz_iload 1 1) from bz_o_iload_n (k := 1) (i := 1) (by decide +kernel) rfl) ?_
  refine bz_ac (show bz_ok RX0 cX0_isLost 6 (bz_push (.int 10) 2) from bz_o_bipush (n := 10) (v := 10) (by decide +kernel) (by decide)) ?_
  refine bz_ac (show bz_ok RX0 cX0_isLost 8 (bz_idiv) from bz_o_idiv (by decide +kernel)) ?_
  refine bz_ac (show bz_ok RX0 cX0_isLost 9 (bz_push (.int 100) 2) from bz_o_bipush (n := 100) (v := 100) (by decide +kernel) (by decide)) ?_
  refine bz_ac (show bz_ok RX0 cX0_isLost 11 (bz_irem) from bz_o_irem (by decide +kernel)) ?_
  refine bz_ac (show bz_ok RX0 cX0_isLost 12 (bz_istore 4 2) from bz_o_istore (i := 4) (by decide +kernel)) ?_
  refine bz_ac (show bz_ok RX0 cX0_isLost 14 (bz_iload 2 1) from bz_o_iload_n (k := 2) (i := 2) (by decide +kernel) rfl) ?_
  refine bz_ac (show bz_ok RX0 cX0_isLost 15 (bz_if_eq 35) from bz_o_if_eq (off := 20) (t := 35) (by decide +kernel) (by decide)) ?_
  refine bz_ac (show bz_ok RX0 cX0_isLost 18 (bz_aload 0 1) from bz_o_aload_n (k := 0) (i := 0) (by decide +kernel) rfl) ?_
  refine bz_ac (show bz_ok RX0 cX0_isLost 19 (bz_getR 0 0) from bz_o_getR (ci := 0) (k := 0) (idx := 9) (C := RX0) (T := TX0) (N := 2) rfl bh_0 rfl rfl (bz_tb 253 (by decide +kernel) (by decide +kernel)) rfl (by decide +kernel)) ?_
  refine bz_ac (show bz_ok RX0 cX0_isLost 22 (bz_iload 4 2) from bz_o_iload (i := 4) (by decide +kernel)) ?_
  refine bz_ac (show bz_ok RX0 cX0_isLost 24 (bz_iald) from bz_o_iald (by decide +kernel)) ?_
  refine bz_ac (show bz_ok RX0 cX0_isLost 25 (bz_iload 3 1) from bz_o_iload_n (k := 3) (i := 3) (by decide +kernel) rfl) ?_
  refine bz_ac (show bz_ok RX0 cX0_isLost 26 (bz_ic_ne 33) from bz_o_ic_ne (off := 7) (t := 33) (by decide +kernel) (by decide)) ?_
  refine bz_ac (show bz_ok RX0 cX0_isLost 29 (bz_push (.int 1) 1) from bz_o_iconst (n := 1) (v := 1) (by decide +kernel) (by decide)) ?_
  refine bz_ac (show bz_ok RX0 cX0_isLost 30 (bz_goto 34) from bz_o_goto (off := 4) (t := 34) (by decide +kernel) (by decide)) ?_
  refine bz_ac (show bz_ok RX0 cX0_isLost 33 (bz_push (.int 0) 1) from bz_o_iconst (n := 0) (v := 0) (by decide +kernel) (by decide)) ?_
  refine bz_ac (show bz_rok cX0_isLost (some .boolean) 34 3 from Or.inr (Or.inr (Or.inr ⟨rfl, rfl, by decide +kernel⟩))) ?_
  refine bz_ac (show bz_ok RX0 cX0_isLost 35 (bz_iload 4 2) from bz_o_iload (i := 4) (by decide +kernel)) ?_
  refine bz_ac (show bz_ok RX0 cX0_isLost 37 (bz_push (.int 10) 2) from bz_o_bipush (n := 10) (v := 10) (by decide +kernel) (by decide)) ?_
  refine bz_ac (show bz_ok RX0 cX0_isLost 39 (bz_idiv) from bz_o_idiv (by decide +kernel)) ?_
  refine bz_ac (show bz_ok RX0 cX0_isLost 40 (bz_iload 4 2) from bz_o_iload (i := 4) (by decide +kernel)) ?_
  refine bz_ac (show bz_ok RX0 cX0_isLost 42 (bz_push (.int 10) 2) from bz_o_bipush (n := 10) (v := 10) (by decide +kernel) (by decide)) ?_
  refine bz_ac (show bz_ok RX0 cX0_isLost 44 (bz_irem) from bz_o_irem (by decide +kernel)) ?_
  refine bz_ac (show bz_ok RX0 cX0_isLost 45 (bz_ixor) from bz_o_ixor (by decide +kernel)) ?_
  refine bz_ac (show bz_ok RX0 cX0_isLost 46 (bz_iload 3 1) from bz_o_iload_n (k := 3) (i := 3) (by decide +kernel) rfl) ?_
  refine bz_ac (show bz_ok RX0 cX0_isLost 47 (bz_ixor) from bz_o_ixor (by decide +kernel)) ?_
  refine bz_ac (show bz_ok RX0 cX0_isLost 48 (bz_if_ne 55) from bz_o_if_ne (off := 7) (t := 55) (by decide +kernel) (by decide)) ?_
  refine bz_ac (show bz_ok RX0 cX0_isLost 51 (bz_push (.int 1) 1) from bz_o_iconst (n := 1) (v := 1) (by decide +kernel) (by decide)) ?_
  refine bz_ac (show bz_ok RX0 cX0_isLost 52 (bz_goto 56) from bz_o_goto (off := 4) (t := 56) (by decide +kernel) (by decide)) ?_
  refine bz_ac (show bz_ok RX0 cX0_isLost 55 (bz_push (.int 0) 1) from bz_o_iconst (n := 0) (v := 0) (by decide +kernel) (by decide)) ?_
  refine bz_ac (show bz_rok cX0_isLost (some .boolean) 56 3 from Or.inr (Or.inr (Or.inr ⟨rfl, rfl, by decide +kernel⟩))) ?_
  exact bz_an
set_option maxRecDepth 100000 in
theorem bo_X0_winsAtOnce (l : Launch) : ∀ q ∈ bt_X0_winsAtOnce, bz_rw bz_P l bm_X0_winsAtOnce q := by
  refine bz_ac (show bz_ok RX0 cX0_winsAtOnce 0 (bz_push (.int 10) 2) from bz_o_bipush (n := 10) (v := 10) (by decide +kernel) (by decide)) ?_
  refine bz_ac (show bz_ok RX0 cX0_winsAtOnce 2 (bz_iload 1 1) from bz_o_iload_n (k := 1) (i := 1) (by decide +kernel) rfl) ?_
  refine bz_ac (show bz_ok RX0 cX0_winsAtOnce 3 (bz_imul) from bz_o_imul (by decide +kernel)) ?_
  refine bz_ac (show bz_ok RX0 cX0_winsAtOnce 4 (bz_iload 2 1) from bz_o_iload_n (k := 2) (i := 2) (by decide +kernel) rfl) ?_
  refine bz_ac (show bz_ok RX0 cX0_winsAtOnce 5 (bz_iadd) from bz_o_iadd (by decide +kernel)) ?_
  refine bz_ac (show bz_ok RX0 cX0_winsAtOnce 6 (bz_istore 3 1) from bz_o_istore_n (k := 3) (i := 3) (by decide +kernel) rfl) ?_
  refine bz_ac (show bz_ok RX0 cX0_winsAtOnce 7 (bz_iload 3 1) from bz_o_iload_n (k := 3) (i := 3) (by decide +kernel) rfl) ?_
  refine bz_ac (show bz_ok RX0 cX0_winsAtOnce 8 (bz_if_eq 22) from bz_o_if_eq (off := 14) (t := 22) (by decide +kernel) (by decide)) ?_
  refine bz_ac (show bz_ok RX0 cX0_winsAtOnce 11 (bz_aload 0 1) from bz_o_aload_n (k := 0) (i := 0) (by decide +kernel) rfl) ?_
  refine bz_ac (show bz_ok RX0 cX0_winsAtOnce 12 (bz_iload 3 1) from bz_o_iload_n (k := 3) (i := 3) (by decide +kernel) rfl) ?_
  refine bz_ac (show bz_ok RX0 cX0_winsAtOnce 13 (bz_push (.int 0) 1) from bz_o_iconst (n := 0) (v := 0) (by decide +kernel) (by decide)) ?_
  refine bz_ac (show bz_cok bz_P l RX0 cX0_winsAtOnce 1 24 14 mX0_isLost 3 1 from bz_cV' (own := RX0) (idx := 18) (ci := 0) (N := 2) (T := TX0) (n := 2) bp_X0_isLost bq_X0_isLost (by decide +kernel) (bz_tb 604 (by decide +kernel) (by decide +kernel)) (bz_tb 606 (by decide +kernel) (by decide +kernel)) (bz_tb 11 (by decide +kernel) (by decide +kernel)) rfl rfl (by decide) (by decide)) ?_
  refine bz_ac (show bz_ok RX0 cX0_winsAtOnce 17 (bz_if_eq 22) from bz_o_if_eq (off := 5) (t := 22) (by decide +kernel) (by decide)) ?_
  refine bz_ac (show bz_ok RX0 cX0_winsAtOnce 20 (bz_push (.int 1) 1) from bz_o_iconst (n := 1) (v := 1) (by decide +kernel) (by decide)) ?_
  refine bz_ac (show bz_rok cX0_winsAtOnce (some .boolean) 21 3 from Or.inr (Or.inr (Or.inr ⟨rfl, rfl, by decide +kernel⟩))) ?_
  refine bz_ac (show bz_ok RX0 cX0_winsAtOnce 22 (bz_iload 1 1) from bz_o_iload_n (k := 1) (i := 1) (by decide +kernel) rfl) ?_
  refine bz_ac (show bz_ok RX0 cX0_winsAtOnce 23 (bz_push (.int 10) 2) from bz_o_bipush (n := 10) (v := 10) (by decide +kernel) (by decide)) ?_
  refine bz_ac (show bz_ok RX0 cX0_winsAtOnce 25 (bz_idiv) from bz_o_idiv (by decide +kernel)) ?_
  refine bz_ac (show bz_ok RX0 cX0_winsAtOnce 26 (bz_istore 4 2) from bz_o_istore (i := 4) (by decide +kernel)) ?_
  refine bz_ac (show bz_ok RX0 cX0_winsAtOnce 28 (bz_iload 1 1) from bz_o_iload_n (k := 1) (i := 1) (by decide +kernel) rfl) ?_
  refine bz_ac (show bz_ok RX0 cX0_winsAtOnce 29 (bz_push (.int 10) 2) from bz_o_bipush (n := 10) (v := 10) (by decide +kernel) (by decide)) ?_
  refine bz_ac (show bz_ok RX0 cX0_winsAtOnce 31 (bz_irem) from bz_o_irem (by decide +kernel)) ?_
  refine bz_ac (show bz_ok RX0 cX0_winsAtOnce 32 (bz_istore 5 2) from bz_o_istore (i := 5) (by decide +kernel)) ?_
  refine bz_ac (show bz_ok RX0 cX0_winsAtOnce 34 (bz_push (.int 0) 1) from bz_o_iconst (n := 0) (v := 0) (by decide +kernel) (by decide)) ?_
  refine bz_ac (show bz_ok RX0 cX0_winsAtOnce 35 (bz_istore 6 2) from bz_o_istore (i := 6) (by decide +kernel)) ?_
  refine bz_ac (show bz_ok RX0 cX0_winsAtOnce 37 (bz_iload 6 2) from bz_o_iload (i := 6) (by decide +kernel)) ?_
  refine bz_ac (show bz_ok RX0 cX0_winsAtOnce 39 (bz_iload 4 2) from bz_o_iload (i := 4) (by decide +kernel)) ?_
  refine bz_ac (show bz_ok RX0 cX0_winsAtOnce 41 (bz_ic_ge 69) from bz_o_ic_ge (off := 28) (t := 69) (by decide +kernel) (by decide)) ?_
  refine bz_ac (show bz_ok RX0 cX0_winsAtOnce 44 (bz_aload 0 1) from bz_o_aload_n (k := 0) (i := 0) (by decide +kernel) rfl) ?_
  refine bz_ac (show bz_ok RX0 cX0_winsAtOnce 45 (bz_getR 0 0) from bz_o_getR (ci := 0) (k := 0) (idx := 9) (C := RX0) (T := TX0) (N := 2) rfl bh_0 rfl rfl (bz_tb 253 (by decide +kernel) (by decide +kernel)) rfl (by decide +kernel)) ?_
  refine bz_ac (show bz_ok RX0 cX0_winsAtOnce 48 (bz_push (.int 10) 2) from bz_o_bipush (n := 10) (v := 10) (by decide +kernel) (by decide)) ?_
  refine bz_ac (show bz_ok RX0 cX0_winsAtOnce 50 (bz_iload 6 2) from bz_o_iload (i := 6) (by decide +kernel)) ?_
  refine bz_ac (show bz_ok RX0 cX0_winsAtOnce 52 (bz_imul) from bz_o_imul (by decide +kernel)) ?_
  refine bz_ac (show bz_ok RX0 cX0_winsAtOnce 53 (bz_iload 5 2) from bz_o_iload (i := 5) (by decide +kernel)) ?_
  refine bz_ac (show bz_ok RX0 cX0_winsAtOnce 55 (bz_iadd) from bz_o_iadd (by decide +kernel)) ?_
  refine bz_ac (show bz_ok RX0 cX0_winsAtOnce 56 (bz_iald) from bz_o_iald (by decide +kernel)) ?_
  refine bz_ac (show bz_ok RX0 cX0_winsAtOnce 57 (bz_iload 2 1) from bz_o_iload_n (k := 2) (i := 2) (by decide +kernel) rfl) ?_
  refine bz_ac (show bz_ok RX0 cX0_winsAtOnce 58 (bz_ic_ne 63) from bz_o_ic_ne (off := 5) (t := 63) (by decide +kernel) (by decide)) ?_
  refine bz_ac (show bz_ok RX0 cX0_winsAtOnce 61 (bz_push (.int 1) 1) from bz_o_iconst (n := 1) (v := 1) (by decide +kernel) (by decide)) ?_
  refine bz_ac (show bz_rok cX0_winsAtOnce (some .boolean) 62 3 from Or.inr (Or.inr (Or.inr ⟨rfl, rfl, by decide +kernel⟩))) ?_
  refine bz_ac (show bz_ok RX0 cX0_winsAtOnce 63 (bz_iinc 6 1) from bz_o_iinc (i := 6) (n := 1) (v := 1) (by decide +kernel) (by decide)) ?_
  refine bz_ac (show bz_ok RX0 cX0_winsAtOnce 66 (bz_goto 37) from bz_o_goto (off := (-29)) (t := 37) (by decide +kernel) (by decide)) ?_
  refine bz_ac (show bz_ok RX0 cX0_winsAtOnce 69 (bz_push (.int 0) 1) from bz_o_iconst (n := 0) (v := 0) (by decide +kernel) (by decide)) ?_
  refine bz_ac (show bz_ok RX0 cX0_winsAtOnce 70 (bz_istore 6 2) from bz_o_istore (i := 6) (by decide +kernel)) ?_
  refine bz_ac (show bz_ok RX0 cX0_winsAtOnce 72 (bz_iload 6 2) from bz_o_iload (i := 6) (by decide +kernel)) ?_
  refine bz_ac (show bz_ok RX0 cX0_winsAtOnce 74 (bz_iload 5 2) from bz_o_iload (i := 5) (by decide +kernel)) ?_
  refine bz_ac (show bz_ok RX0 cX0_winsAtOnce 76 (bz_ic_ge 104) from bz_o_ic_ge (off := 28) (t := 104) (by decide +kernel) (by decide)) ?_
  refine bz_ac (show bz_ok RX0 cX0_winsAtOnce 79 (bz_aload 0 1) from bz_o_aload_n (k := 0) (i := 0) (by decide +kernel) rfl) ?_
  refine bz_ac (show bz_ok RX0 cX0_winsAtOnce 80 (bz_getR 0 0) from bz_o_getR (ci := 0) (k := 0) (idx := 9) (C := RX0) (T := TX0) (N := 2) rfl bh_0 rfl rfl (bz_tb 253 (by decide +kernel) (by decide +kernel)) rfl (by decide +kernel)) ?_
  refine bz_ac (show bz_ok RX0 cX0_winsAtOnce 83 (bz_push (.int 10) 2) from bz_o_bipush (n := 10) (v := 10) (by decide +kernel) (by decide)) ?_
  refine bz_ac (show bz_ok RX0 cX0_winsAtOnce 85 (bz_iload 4 2) from bz_o_iload (i := 4) (by decide +kernel)) ?_
  refine bz_ac (show bz_ok RX0 cX0_winsAtOnce 87 (bz_imul) from bz_o_imul (by decide +kernel)) ?_
  refine bz_ac (show bz_ok RX0 cX0_winsAtOnce 88 (bz_iload 6 2) from bz_o_iload (i := 6) (by decide +kernel)) ?_
  refine bz_ac (show bz_ok RX0 cX0_winsAtOnce 90 (bz_iadd) from bz_o_iadd (by decide +kernel)) ?_
  refine bz_ac (show bz_ok RX0 cX0_winsAtOnce 91 (bz_iald) from bz_o_iald (by decide +kernel)) ?_
  refine bz_ac (show bz_ok RX0 cX0_winsAtOnce 92 (bz_iload 2 1) from bz_o_iload_n (k := 2) (i := 2) (by decide +kernel) rfl) ?_
  refine bz_ac (show bz_ok RX0 cX0_winsAtOnce 93 (bz_ic_ne 98) from bz_o_ic_ne (off := 5) (t := 98) (by decide +kernel) (by decide)) ?_
  refine bz_ac (show bz_ok RX0 cX0_winsAtOnce 96 (bz_push (.int 1) 1) from bz_o_iconst (n := 1) (v := 1) (by decide +kernel) (by decide)) ?_
  refine bz_ac (show bz_rok cX0_winsAtOnce (some .boolean) 97 3 from Or.inr (Or.inr (Or.inr ⟨rfl, rfl, by decide +kernel⟩))) ?_
  refine bz_ac (show bz_ok RX0 cX0_winsAtOnce 98 (bz_iinc 6 1) from bz_o_iinc (i := 6) (n := 1) (v := 1) (by decide +kernel) (by decide)) ?_
  refine bz_ac (show bz_ok RX0 cX0_winsAtOnce 101 (bz_goto 72) from bz_o_goto (off := (-29)) (t := 72) (by decide +kernel) (by decide)) ?_
  refine bz_ac (show bz_ok RX0 cX0_winsAtOnce 104 (bz_push (.int 0) 1) from bz_o_iconst (n := 0) (v := 0) (by decide +kernel) (by decide)) ?_
  refine bz_ac (show bz_rok cX0_winsAtOnce (some .boolean) 105 3 from Or.inr (Or.inr (Or.inr ⟨rfl, rfl, by decide +kernel⟩))) ?_
  exact bz_an
set_option maxRecDepth 100000 in
theorem bo_X0_learn (l : Launch) : ∀ q ∈ bt_X0_learn, bz_rw bz_P l bm_X0_learn q := by
  refine bz_ac (show bz_ok RX0 cX0_learn 0 (bz_push (.int 0) 1) from bz_o_iconst (n := 0) (v := 0) (by decide +kernel) (by decide)) ?_
  refine bz_ac (show bz_ok RX0 cX0_learn 1 (bz_istore 1 1) from bz_o_istore_n (k := 1) (i := 1) (by decide +kernel) rfl) ?_
  refine bz_ac (show bz_ok RX0 cX0_learn 2 (bz_iload 1 1) from bz_o_iload_n (k := 1) (i := 1) (by decide +kernel) rfl) ?_
  refine bz_ac (show bz_ok RX0 cX0_learn 3 (bz_push (.int 100) 2) from bz_o_bipush (n := 100) (v := 100) (by decide +kernel) (by decide)) ?_
  refine bz_ac (show bz_ok RX0 cX0_learn 5 (bz_ic_ge 58) from bz_o_ic_ge (off := 53) (t := 58) (by decide +kernel) (by decide)) ?_
  refine bz_ac (show bz_ok RX0 cX0_learn 8 (bz_aload 0 1) from bz_o_aload_n (k := 0) (i := 0) (by decide +kernel) rfl) ?_
  refine bz_ac (show bz_ok RX0 cX0_learn 9 (bz_getI 0 1) from bz_o_getI (ci := 0) (k := 1) (idx := 22) (C := RX0) (T := TX0) (N := 2) rfl bh_0 rfl rfl (bz_tb 254 (by decide +kernel) (by decide +kernel)) (Or.inr rfl) (by decide +kernel)) ?_
  refine bz_ac (show bz_ok RX0 cX0_learn 12 (bz_if_ne 58) from bz_o_if_ne (off := 46) (t := 58) (by decide +kernel) (by decide)) ?_
  refine bz_ac (show bz_ok RX0 cX0_learn 15 (bz_aload 0 1) from bz_o_aload_n (k := 0) (i := 0) (by decide +kernel) rfl) ?_
  refine bz_ac (show bz_ok RX0 cX0_learn 16 (bz_getR 0 0) from bz_o_getR (ci := 0) (k := 0) (idx := 9) (C := RX0) (T := TX0) (N := 2) rfl bh_0 rfl rfl (bz_tb 253 (by decide +kernel) (by decide +kernel)) rfl (by decide +kernel)) ?_
  refine bz_ac (show bz_ok RX0 cX0_learn 19 (bz_iload 1 1) from bz_o_iload_n (k := 1) (i := 1) (by decide +kernel) rfl) ?_
  refine bz_ac (show bz_ok RX0 cX0_learn 20 (bz_push (.int (-6)) 2) from bz_o_bipush (n := (-6)) (v := (-6)) (by decide +kernel) (by decide)) ?_
  refine bz_ac (show bz_ok RX0 cX0_learn 22 (bz_iast) from bz_o_iast (by decide +kernel)) ?_
  refine bz_ac (show bz_ok RX0 cX0_learn 23 (bz_push (.int 9) 2) from bz_o_bipush (n := 9) (v := 9) (by decide +kernel) (by decide)) ?_
  refine bz_ac (show bz_ok RX0 cX0_learn 25 (bz_istore 2 1) from bz_o_istore_n (k := 2) (i := 2) (by decide +kernel) rfl) ?_
  refine bz_ac (show bz_ok RX0 cX0_learn 26 (bz_iload 2 1) from bz_o_iload_n (k := 2) (i := 2) (by decide +kernel) rfl) ?_
  refine bz_ac (show bz_ok RX0 cX0_learn 27 (bz_if_lt 52) from bz_o_if_lt (off := 25) (t := 52) (by decide +kernel) (by decide)) ?_
  refine bz_ac (show bz_ok RX0 cX0_learn 30 (bz_aload 0 1) from bz_o_aload_n (k := 0) (i := 0) (by decide +kernel) rfl) ?_
  refine bz_ac (show bz_ok RX0 cX0_learn 31 (bz_iload 1 1) from bz_o_iload_n (k := 1) (i := 1) (by decide +kernel) rfl) ?_
  refine bz_ac (show bz_ok RX0 cX0_learn 32 (bz_iload 2 1) from bz_o_iload_n (k := 2) (i := 2) (by decide +kernel) rfl) ?_
  refine bz_ac (show bz_cok bz_P l RX0 cX0_learn 2 50 33 mX0_winsAtOnce 3 1 from bz_cV' (own := RX0) (idx := 26) (ci := 0) (N := 2) (T := TX0) (n := 2) bp_X0_winsAtOnce bq_X0_winsAtOnce (by decide +kernel) (bz_tb 600 (by decide +kernel) (by decide +kernel)) (bz_tb 602 (by decide +kernel) (by decide +kernel)) (bz_tb 10 (by decide +kernel) (by decide +kernel)) rfl rfl (by decide) (by decide)) ?_
  refine bz_ac (show bz_ok RX0 cX0_learn 36 (bz_if_ne 46) from bz_o_if_ne (off := 10) (t := 46) (by decide +kernel) (by decide)) ?_
  refine bz_ac (show bz_ok RX0 cX0_learn 39 (bz_aload 0 1) from bz_o_aload_n (k := 0) (i := 0) (by decide +kernel) rfl) ?_
  refine bz_ac (show bz_ok RX0 cX0_learn 40 (bz_getR 0 0) from bz_o_getR (ci := 0) (k := 0) (idx := 9) (C := RX0) (T := TX0) (N := 2) rfl bh_0 rfl rfl (bz_tb 253 (by decide +kernel) (by decide +kernel)) rfl (by decide +kernel)) ?_
  refine bz_ac (show bz_ok RX0 cX0_learn 43 (bz_iload 1 1) from bz_o_iload_n (k := 1) (i := 1) (by decide +kernel) rfl) ?_
  refine bz_ac (show bz_ok RX0 cX0_learn 44 (bz_iload 2 1) from bz_o_iload_n (k := 2) (i := 2) (by decide +kernel) rfl) ?_
  refine bz_ac (show bz_ok RX0 cX0_learn 45 (bz_iast) from bz_o_iast (by decide +kernel)) ?_
  refine bz_ac (show bz_ok RX0 cX0_learn 46 (bz_iinc 2 (-1)) from bz_o_iinc (i := 2) (n := (-1)) (v := (-1)) (by decide +kernel) (by decide)) ?_
  refine bz_ac (show bz_ok RX0 cX0_learn 49 (bz_goto 26) from bz_o_goto (off := (-23)) (t := 26) (by decide +kernel) (by decide)) ?_
  refine bz_ac (show bz_ok RX0 cX0_learn 52 (bz_iinc 1 1) from bz_o_iinc (i := 1) (n := 1) (v := 1) (by decide +kernel) (by decide)) ?_
  refine bz_ac (show bz_ok RX0 cX0_learn 55 (bz_goto 2) from bz_o_goto (off := (-53)) (t := 2) (by decide +kernel) (by decide)) ?_
  refine bz_ac (show bz_ok RX0 cX0_learn 58 (bz_aload 0 1) from bz_o_aload_n (k := 0) (i := 0) (by decide +kernel) rfl) ?_
  refine bz_ac (show bz_ok RX0 cX0_learn 59 (bz_push (.int 1) 1) from bz_o_iconst (n := 1) (v := 1) (by decide +kernel) (by decide)) ?_
  refine bz_ac (show bz_ok RX0 cX0_learn 60 (bz_putZ 0 1) from bz_o_putZ (ci := 0) (k := 1) (idx := 22) (C := RX0) (T := TX0) (N := 2) rfl bh_0 rfl rfl (bz_tb 254 (by decide +kernel) (by decide +kernel)) tyX0 tyX0_ok nmX0 rfl rfl rfl (by decide +kernel)) ?_
  refine bz_ac (show bz_rok cX0_learn none 63 0 from Or.inl ⟨rfl, rfl, by decide +kernel⟩) ?_
  exact bz_an
set_option maxRecDepth 100000 in
theorem bo_X0_winningMove (l : Launch) : ∀ q ∈ bt_X0_winningMove, bz_rw bz_P l bm_X0_winningMove q := by
  refine bz_ac (show bz_ok RX0 cX0_winningMove 0 (bz_aload 0 1) from bz_o_aload_n (k := 0) (i := 0) (by decide +kernel) rfl) ?_
  refine bz_ac (show bz_cok bz_P l RX0 cX0_winningMove 3 72 1 mX0_learn 1 1 from bz_cV' (own := RX0) (idx := 15) (ci := 0) (N := 2) (T := TX0) (n := 0) bp_X0_learn bq_X0_learn (by decide +kernel) (bz_tb 596 (by decide +kernel) (by decide +kernel)) (bz_tb 598 (by decide +kernel) (by decide +kernel)) (bz_tb 9 (by decide +kernel) (by decide +kernel)) rfl rfl (by decide) (by decide)) ?_
  refine bz_ac (show bz_ok RX0 cX0_winningMove 4 (bz_push (.int 0) 1) from bz_o_iconst (n := 0) (v := 0) (by decide +kernel) (by decide)) ?_
  refine bz_ac (show bz_ok RX0 cX0_winningMove 5 (bz_istore 3 1) from bz_o_istore_n (k := 3) (i := 3) (by decide +kernel) rfl) ?_
  refine bz_ac (show bz_ok RX0 cX0_winningMove 6 (bz_iload 3 1) from bz_o_iload_n (k := 3) (i := 3) (by decide +kernel) rfl) ?_
  refine bz_ac (show bz_ok RX0 cX0_winningMove 7 (bz_push (.int 3) 1) from bz_o_iconst (n := 3) (v := 3) (by decide +kernel) (by decide)) ?_
  refine bz_ac (show bz_ok RX0 cX0_winningMove 8 (bz_ic_ge 87) from bz_o_ic_ge (off := 79) (t := 87) (by decide +kernel) (by decide)) ?_
  refine bz_ac (show bz_ok RX0 cX0_winningMove 11 (bz_iload 3 1) from bz_o_iload_n (k := 3) (i := 3) (by decide +kernel) rfl) ?_
  refine bz_ac (show bz_ok RX0 cX0_winningMove 12 (bz_if_ne 20) from bz_o_if_ne (off := 8) (t := 20) (by decide +kernel) (by decide)) ?_
  refine bz_ac (show bz_ok RX0 cX0_winningMove 15 (bz_push (.int 100) 2) from bz_o_bipush (n := 100) (v := 100) (by decide +kernel) (by decide)) ?_
  refine bz_ac (show bz_ok RX0 cX0_winningMove 17 (bz_goto 31) from bz_o_goto (off := 14) (t := 31) (by decide +kernel) (by decide)) ?_
  refine bz_ac (show bz_ok RX0 cX0_winningMove 20 (bz_iload 3 1) from bz_o_iload_n (k := 3) (i := 3) (by decide +kernel) rfl) ?_
  refine bz_ac (show bz_ok RX0 cX0_winningMove 21 (bz_push (.int 1) 1) from bz_o_iconst (n := 1) (v := 1) (by decide +kernel) (by decide)) ?_
  refine bz_ac (show bz_ok RX0 cX0_winningMove 22 (bz_ic_ne 30) from bz_o_ic_ne (off := 8) (t := 30) (by decide +kernel) (by decide)) ?_
  refine bz_ac (show bz_ok RX0 cX0_winningMove 25 (bz_push (.int 10) 2) from bz_o_bipush (n := 10) (v := 10) (by decide +kernel) (by decide)) ?_
  refine bz_ac (show bz_ok RX0 cX0_winningMove 27 (bz_goto 31) from bz_o_goto (off := 4) (t := 31) (by decide +kernel) (by decide)) ?_
  refine bz_ac (show bz_ok RX0 cX0_winningMove 30 (bz_push (.int 1) 1) from bz_o_iconst (n := 1) (v := 1) (by decide +kernel) (by decide)) ?_
  refine bz_ac (show bz_ok RX0 cX0_winningMove 31 (bz_istore 4 2) from bz_o_istore (i := 4) (by decide +kernel)) ?_
  refine bz_ac (show bz_ok RX0 cX0_winningMove 33 (bz_iload 1 1) from bz_o_iload_n (k := 1) (i := 1) (by decide +kernel) rfl) ?_
  refine bz_ac (show bz_ok RX0 cX0_winningMove 34 (bz_iload 4 2) from bz_o_iload (i := 4) (by decide +kernel)) ?_
  refine bz_ac (show bz_ok RX0 cX0_winningMove 36 (bz_idiv) from bz_o_idiv (by decide +kernel)) ?_
  refine bz_ac (show bz_ok RX0 cX0_winningMove 37 (bz_push (.int 10) 2) from bz_o_bipush (n := 10) (v := 10) (by decide +kernel) (by decide)) ?_
  refine bz_ac (show bz_ok RX0 cX0_winningMove 39 (bz_irem) from bz_o_irem (by decide +kernel)) ?_
  refine bz_ac (show bz_ok RX0 cX0_winningMove 40 (bz_istore 5 2) from bz_o_istore (i := 5) (by decide +kernel)) ?_
  refine bz_ac (show bz_ok RX0 cX0_winningMove 42 (bz_push (.int 1) 1) from bz_o_iconst (n := 1) (v := 1) (by decide +kernel) (by decide)) ?_
  refine bz_ac (show bz_ok RX0 cX0_winningMove 43 (bz_istore 6 2) from bz_o_istore (i := 6) (by decide +kernel)) ?_
  refine bz_ac (show bz_ok RX0 cX0_winningMove 45 (bz_iload 6 2) from bz_o_iload (i := 6) (by decide +kernel)) ?_
  refine bz_ac (show bz_ok RX0 cX0_winningMove 47 (bz_iload 5 2) from bz_o_iload (i := 5) (by decide +kernel)) ?_
  refine bz_ac (show bz_ok RX0 cX0_winningMove 49 (bz_ic_gt 81) from bz_o_ic_gt (off := 32) (t := 81) (by decide +kernel) (by decide)) ?_
  refine bz_ac (show bz_ok RX0 cX0_winningMove 52 (bz_aload 0 1) from bz_o_aload_n (k := 0) (i := 0) (by decide +kernel) rfl) ?_
  refine bz_ac (show bz_ok RX0 cX0_winningMove 53 (bz_iload 1 1) from bz_o_iload_n (k := 1) (i := 1) (by decide +kernel) rfl) ?_
  refine bz_ac (show bz_ok RX0 cX0_winningMove 54 (bz_iload 6 2) from bz_o_iload (i := 6) (by decide +kernel)) ?_
  refine bz_ac (show bz_ok RX0 cX0_winningMove 56 (bz_iload 4 2) from bz_o_iload (i := 4) (by decide +kernel)) ?_
  refine bz_ac (show bz_ok RX0 cX0_winningMove 58 (bz_imul) from bz_o_imul (by decide +kernel)) ?_
  refine bz_ac (show bz_ok RX0 cX0_winningMove 59 (bz_isub) from bz_o_isub (by decide +kernel)) ?_
  refine bz_ac (show bz_ok RX0 cX0_winningMove 60 (bz_iload 2 1) from bz_o_iload_n (k := 2) (i := 2) (by decide +kernel) rfl) ?_
  refine bz_ac (show bz_cok bz_P l RX0 cX0_winningMove 3 72 61 mX0_isLost 3 1 from bz_cV' (own := RX0) (idx := 18) (ci := 0) (N := 2) (T := TX0) (n := 2) bp_X0_isLost bq_X0_isLost (by decide +kernel) (bz_tb 604 (by decide +kernel) (by decide +kernel)) (bz_tb 606 (by decide +kernel) (by decide +kernel)) (bz_tb 11 (by decide +kernel) (by decide +kernel)) rfl rfl (by decide) (by decide)) ?_
  refine bz_ac (show bz_ok RX0 cX0_winningMove 64 (bz_if_eq 75) from bz_o_if_eq (off := 11) (t := 75) (by decide +kernel) (by decide)) ?_
  refine bz_ac (show bz_ok RX0 cX0_winningMove 67 (bz_push (.int 10) 2) from bz_o_bipush (n := 10) (v := 10) (by decide +kernel) (by decide)) ?_
  refine bz_ac (show bz_ok RX0 cX0_winningMove 69 (bz_iload 3 1) from bz_o_iload_n (k := 3) (i := 3) (by decide +kernel) rfl) ?_
  refine bz_ac (show bz_ok RX0 cX0_winningMove 70 (bz_imul) from bz_o_imul (by decide +kernel)) ?_
  refine bz_ac (show bz_ok RX0 cX0_winningMove 71 (bz_iload 6 2) from bz_o_iload (i := 6) (by decide +kernel)) ?_
  refine bz_ac (show bz_ok RX0 cX0_winningMove 73 (bz_iadd) from bz_o_iadd (by decide +kernel)) ?_
  refine bz_ac (show bz_rok cX0_winningMove (some .int) 74 1 from Or.inr (Or.inl ⟨rfl, rfl, by decide +kernel⟩)) ?_
  refine bz_ac (show bz_ok RX0 cX0_winningMove 75 (bz_iinc 6 1) from bz_o_iinc (i := 6) (n := 1) (v := 1) (by decide +kernel) (by decide)) ?_
  refine bz_ac (show bz_ok RX0 cX0_winningMove 78 (bz_goto 45) from bz_o_goto (off := (-33)) (t := 45) (by decide +kernel) (by decide)) ?_
  refine bz_ac (show bz_ok RX0 cX0_winningMove 81 (bz_iinc 3 1) from bz_o_iinc (i := 3) (n := 1) (v := 1) (by decide +kernel) (by decide)) ?_
  refine bz_ac (show bz_ok RX0 cX0_winningMove 84 (bz_goto 6) from bz_o_goto (off := (-78)) (t := 6) (by decide +kernel) (by decide)) ?_
  refine bz_ac (show bz_ok RX0 cX0_winningMove 87 (bz_iload 2 1) from bz_o_iload_n (k := 2) (i := 2) (by decide +kernel) rfl) ?_
  refine bz_ac (show bz_ok RX0 cX0_winningMove 88 (bz_if_eq 109) from bz_o_if_eq (off := 21) (t := 109) (by decide +kernel) (by decide)) ?_
  refine bz_ac (show bz_ok RX0 cX0_winningMove 91 (bz_iload 1 1) from bz_o_iload_n (k := 1) (i := 1) (by decide +kernel) rfl) ?_
  refine bz_ac (show bz_ok RX0 cX0_winningMove 92 (bz_if_eq 109) from bz_o_if_eq (off := 17) (t := 109) (by decide +kernel) (by decide)) ?_
  refine bz_ac (show bz_ok RX0 cX0_winningMove 95 (bz_aload 0 1) from bz_o_aload_n (k := 0) (i := 0) (by decide +kernel) rfl) ?_
  refine bz_ac (show bz_ok RX0 cX0_winningMove 96 (bz_iload 1 1) from bz_o_iload_n (k := 1) (i := 1) (by decide +kernel) rfl) ?_
  refine bz_ac (show bz_ok RX0 cX0_winningMove 97 (bz_push (.int 0) 1) from bz_o_iconst (n := 0) (v := 0) (by decide +kernel) (by decide)) ?_
  refine bz_ac (show bz_cok bz_P l RX0 cX0_winningMove 3 72 98 mX0_isLost 3 1 from bz_cV' (own := RX0) (idx := 18) (ci := 0) (N := 2) (T := TX0) (n := 2) bp_X0_isLost bq_X0_isLost (by decide +kernel) (bz_tb 604 (by decide +kernel) (by decide +kernel)) (bz_tb 606 (by decide +kernel) (by decide +kernel)) (bz_tb 11 (by decide +kernel) (by decide +kernel)) rfl rfl (by decide) (by decide)) ?_
  refine bz_ac (show bz_ok RX0 cX0_winningMove 101 (bz_if_eq 109) from bz_o_if_eq (off := 8) (t := 109) (by decide +kernel) (by decide)) ?_
  refine bz_ac (show bz_ok RX0 cX0_winningMove 104 (bz_push (.int 99) 2) from bz_o_bipush (n := 99) (v := 99) (by decide +kernel) (by decide)) ?_
  refine bz_ac (show bz_ok RX0 cX0_winningMove 106 (bz_goto 111) from bz_o_goto (off := 5) (t := 111) (by decide +kernel) (by decide)) ?_
  refine bz_ac (show bz_ok RX0 cX0_winningMove 109 (bz_push (.int (-6)) 2) from bz_o_bipush (n := (-6)) (v := (-6)) (by decide +kernel) (by decide)) ?_
  refine bz_ac (show bz_rok cX0_winningMove (some .int) 111 1 from Or.inr (Or.inl ⟨rfl, rfl, by decide +kernel⟩)) ?_
  exact bz_an
set_option maxRecDepth 100000 in
theorem bo_X6_copy (l : Launch) : ∀ q ∈ bt_X6_copy, bz_rw bz_P l bm_X6_copy q := by
  refine bz_ac (show bz_ok RX6 cX6_copy 0 (bz_push (.int 0) 1) from bz_o_iconst (n := 0) (v := 0) (by decide +kernel) (by decide)) ?_
  refine bz_ac (show bz_ok RX6 cX6_copy 1 (bz_istore 2 1) from bz_o_istore_n (k := 2) (i := 2) (by decide +kernel) rfl) ?_
  refine bz_ac (show bz_ok RX6 cX6_copy 2 (bz_iload 2 1) from bz_o_iload_n (k := 2) (i := 2) (by decide +kernel) rfl) ?_
  refine bz_ac (show bz_ok RX6 cX6_copy 3 (bz_push (.int 3) 1) from bz_o_iconst (n := 3) (v := 3) (by decide +kernel) (by decide)) ?_
  refine bz_ac (show bz_ok RX6 cX6_copy 4 (bz_ic_ge 25) from bz_o_ic_ge (off := 21) (t := 25) (by decide +kernel) (by decide)) ?_
  refine bz_ac (show bz_ok RX6 cX6_copy 7 (bz_aload 0 1) from bz_o_aload_n (k := 0) (i := 0) (by decide +kernel) rfl) ?_
  refine bz_ac (show bz_ok RX6 cX6_copy 8 (bz_getR 5 0) from bz_o_getR (ci := 5) (k := 0) (idx := 9) (C := RX6) (T := TX6) (N := 4) rfl bh_5 rfl rfl (bz_tb 75 (by decide +kernel) (by decide +kernel)) rfl (by decide +kernel)) ?_
  refine bz_ac (show bz_ok RX6 cX6_copy 11 (bz_iload 2 1) from bz_o_iload_n (k := 2) (i := 2) (by decide +kernel) rfl) ?_
  refine bz_ac (show bz_ok RX6 cX6_copy 12 (bz_aload 1 1) from bz_o_aload_n (k := 1) (i := 1) (by decide +kernel) rfl) ?_
  refine bz_ac (show bz_ok RX6 cX6_copy 13 (bz_getR 5 0) from bz_o_getR (ci := 5) (k := 0) (idx := 9) (C := RX6) (T := TX6) (N := 4) rfl bh_5 rfl rfl (bz_tb 75 (by decide +kernel) (by decide +kernel)) rfl (by decide +kernel)) ?_
  refine bz_ac (show bz_ok RX6 cX6_copy 16 (bz_iload 2 1) from bz_o_iload_n (k := 2) (i := 2) (by decide +kernel) rfl) ?_
  refine bz_ac (show bz_ok RX6 cX6_copy 17 (bz_iald) from bz_o_iald (by decide +kernel)) ?_
  refine bz_ac (show bz_ok RX6 cX6_copy 18 (bz_iast) from bz_o_iast (by decide +kernel)) ?_
  refine bz_ac (show bz_ok RX6 cX6_copy 19 (bz_iinc 2 1) from bz_o_iinc (i := 2) (n := 1) (v := 1) (by decide +kernel) (by decide)) ?_
  refine bz_ac (show bz_ok RX6 cX6_copy 22 (bz_goto 2) from bz_o_goto (off := (-20)) (t := 2) (by decide +kernel) (by decide)) ?_
  refine bz_ac (show bz_ok RX6 cX6_copy 25 (bz_aload 0 1) from bz_o_aload_n (k := 0) (i := 0) (by decide +kernel) rfl) ?_
  refine bz_ac (show bz_ok RX6 cX6_copy 26 (bz_aload 1 1) from bz_o_aload_n (k := 1) (i := 1) (by decide +kernel) rfl) ?_
  refine bz_ac (show bz_ok RX6 cX6_copy 27 (bz_getI 5 1) from bz_o_getI (ci := 5) (k := 1) (idx := 18) (C := RX6) (T := TX6) (N := 4) rfl bh_5 rfl rfl (bz_tb 79 (by decide +kernel) (by decide +kernel)) (Or.inl rfl) (by decide +kernel)) ?_
  refine bz_ac (show bz_ok RX6 cX6_copy 30 (bz_putI 5 1) from bz_o_putI (ci := 5) (k := 1) (idx := 18) (C := RX6) (T := TX6) (N := 4) rfl bh_5 rfl rfl (bz_tb 79 (by decide +kernel) (by decide +kernel)) tyX6 tyX6_ok nmX6 rfl rfl rfl (by decide +kernel)) ?_
  refine bz_ac (show bz_ok RX6 cX6_copy 33 (bz_aload 0 1) from bz_o_aload_n (k := 0) (i := 0) (by decide +kernel) rfl) ?_
  refine bz_ac (show bz_ok RX6 cX6_copy 34 (bz_aload 1 1) from bz_o_aload_n (k := 1) (i := 1) (by decide +kernel) rfl) ?_
  refine bz_ac (show bz_ok RX6 cX6_copy 35 (bz_getI 5 2) from bz_o_getI (ci := 5) (k := 2) (idx := 22) (C := RX6) (T := TX6) (N := 4) rfl bh_5 rfl rfl (bz_tb 82 (by decide +kernel) (by decide +kernel)) (Or.inl rfl) (by decide +kernel)) ?_
  refine bz_ac (show bz_ok RX6 cX6_copy 38 (bz_putI 5 2) from bz_o_putI (ci := 5) (k := 2) (idx := 22) (C := RX6) (T := TX6) (N := 4) rfl bh_5 rfl rfl (bz_tb 82 (by decide +kernel) (by decide +kernel)) tyX6 tyX6_ok nmX6 rfl rfl rfl (by decide +kernel)) ?_
  refine bz_ac (show bz_ok RX6 cX6_copy 41 (bz_aload 0 1) from bz_o_aload_n (k := 0) (i := 0) (by decide +kernel) rfl) ?_
  refine bz_ac (show bz_ok RX6 cX6_copy 42 (bz_aload 1 1) from bz_o_aload_n (k := 1) (i := 1) (by decide +kernel) rfl) ?_
  refine bz_ac (show bz_ok RX6 cX6_copy 43 (bz_getI 5 3) from bz_o_getI (ci := 5) (k := 3) (idx := 25) (C := RX6) (T := TX6) (N := 4) rfl bh_5 rfl rfl (bz_tb 85 (by decide +kernel) (by decide +kernel)) (Or.inl rfl) (by decide +kernel)) ?_
  refine bz_ac (show bz_ok RX6 cX6_copy 46 (bz_putI 5 3) from bz_o_putI (ci := 5) (k := 3) (idx := 25) (C := RX6) (T := TX6) (N := 4) rfl bh_5 rfl rfl (bz_tb 85 (by decide +kernel) (by decide +kernel)) tyX6 tyX6_ok nmX6 rfl rfl rfl (by decide +kernel)) ?_
  refine bz_ac (show bz_rok cX6_copy none 49 0 from Or.inl ⟨rfl, rfl, by decide +kernel⟩) ?_
  exact bz_an
set_option maxRecDepth 100000 in
theorem bo_X4_copy (l : Launch) : ∀ q ∈ bt_X4_copy, bz_rw bz_P l bm_X4_copy q := by
  refine bz_ac (show bz_ok RX4 cX4_copy 0 (bz_push (.int 0) 1) from bz_o_iconst (n := 0) (v := 0) (by decide +kernel) (by decide)) ?_
  refine bz_ac (show bz_ok RX4 cX4_copy 1 (bz_istore 2 1) from bz_o_istore_n (k := 2) (i := 2) (by decide +kernel) rfl) ?_
  refine bz_ac (show bz_ok RX4 cX4_copy 2 (bz_iload 2 1) from bz_o_iload_n (k := 2) (i := 2) (by decide +kernel) rfl) ?_
  refine bz_ac (show bz_ok RX4 cX4_copy 3 (bz_push (.int 8) 2) from bz_o_bipush (n := 8) (v := 8) (by decide +kernel) (by decide)) ?_
  refine bz_ac (show bz_ok RX4 cX4_copy 5 (bz_ic_ge 38) from bz_o_ic_ge (off := 33) (t := 38) (by decide +kernel) (by decide)) ?_
  refine bz_ac (show bz_ok RX4 cX4_copy 8 (bz_aload 0 1) from bz_o_aload_n (k := 0) (i := 0) (by decide +kernel) rfl) ?_
  refine bz_ac (show bz_ok RX4 cX4_copy 9 (bz_getR 3 0) from bz_o_getR (ci := 3) (k := 0) (idx := 9) (C := RX4) (T := TX4) (N := 3) rfl bh_3 rfl rfl (bz_tb 104 (by decide +kernel) (by decide +kernel)) rfl (by decide +kernel)) ?_
  refine bz_ac (show bz_ok RX4 cX4_copy 12 (bz_iload 2 1) from bz_o_iload_n (k := 2) (i := 2) (by decide +kernel) rfl) ?_
  refine bz_ac (show bz_ok RX4 cX4_copy 13 (bz_aload 1 1) from bz_o_aload_n (k := 1) (i := 1) (by decide +kernel) rfl) ?_
  refine bz_ac (show bz_ok RX4 cX4_copy 14 (bz_getR 3 0) from bz_o_getR (ci := 3) (k := 0) (idx := 9) (C := RX4) (T := TX4) (N := 3) rfl bh_3 rfl rfl (bz_tb 104 (by decide +kernel) (by decide +kernel)) rfl (by decide +kernel)) ?_
  refine bz_ac (show bz_ok RX4 cX4_copy 17 (bz_iload 2 1) from bz_o_iload_n (k := 2) (i := 2) (by decide +kernel) rfl) ?_
  refine bz_ac (show bz_ok RX4 cX4_copy 18 (bz_iald) from bz_o_iald (by decide +kernel)) ?_
  refine bz_ac (show bz_ok RX4 cX4_copy 19 (bz_iast) from bz_o_iast (by decide +kernel)) ?_
  refine bz_ac (show bz_ok RX4 cX4_copy 20 (bz_aload 0 1) from bz_o_aload_n (k := 0) (i := 0) (by decide +kernel) rfl) ?_
  refine bz_ac (show bz_ok RX4 cX4_copy 21 (bz_getR 3 1) from bz_o_getR (ci := 3) (k := 1) (idx := 15) (C := RX4) (T := TX4) (N := 3) rfl bh_3 rfl rfl (bz_tb 105 (by decide +kernel) (by decide +kernel)) rfl (by decide +kernel)) ?_
  refine bz_ac (show bz_ok RX4 cX4_copy 24 (bz_iload 2 1) from bz_o_iload_n (k := 2) (i := 2) (by decide +kernel) rfl) ?_
  refine bz_ac (show bz_ok RX4 cX4_copy 25 (bz_aload 1 1) from bz_o_aload_n (k := 1) (i := 1) (by decide +kernel) rfl) ?_
  refine bz_ac (show bz_ok RX4 cX4_copy 26 (bz_getR 3 1) from bz_o_getR (ci := 3) (k := 1) (idx := 15) (C := RX4) (T := TX4) (N := 3) rfl bh_3 rfl rfl (bz_tb 105 (by decide +kernel) (by decide +kernel)) rfl (by decide +kernel)) ?_
  refine bz_ac (show bz_ok RX4 cX4_copy 29 (bz_iload 2 1) from bz_o_iload_n (k := 2) (i := 2) (by decide +kernel) rfl) ?_
  refine bz_ac (show bz_ok RX4 cX4_copy 30 (bz_iald) from bz_o_iald (by decide +kernel)) ?_
  refine bz_ac (show bz_ok RX4 cX4_copy 31 (bz_iast) from bz_o_iast (by decide +kernel)) ?_
  refine bz_ac (show bz_ok RX4 cX4_copy 32 (bz_iinc 2 1) from bz_o_iinc (i := 2) (n := 1) (v := 1) (by decide +kernel) (by decide)) ?_
  refine bz_ac (show bz_ok RX4 cX4_copy 35 (bz_goto 2) from bz_o_goto (off := (-33)) (t := 2) (by decide +kernel) (by decide)) ?_
  refine bz_ac (show bz_ok RX4 cX4_copy 38 (bz_aload 0 1) from bz_o_aload_n (k := 0) (i := 0) (by decide +kernel) rfl) ?_
  refine bz_ac (show bz_ok RX4 cX4_copy 39 (bz_aload 1 1) from bz_o_aload_n (k := 1) (i := 1) (by decide +kernel) rfl) ?_
  refine bz_ac (show bz_ok RX4 cX4_copy 40 (bz_getI 3 2) from bz_o_getI (ci := 3) (k := 2) (idx := 18) (C := RX4) (T := TX4) (N := 3) rfl bh_3 rfl rfl (bz_tb 106 (by decide +kernel) (by decide +kernel)) (Or.inl rfl) (by decide +kernel)) ?_
  refine bz_ac (show bz_ok RX4 cX4_copy 43 (bz_putI 3 2) from bz_o_putI (ci := 3) (k := 2) (idx := 18) (C := RX4) (T := TX4) (N := 3) rfl bh_3 rfl rfl (bz_tb 106 (by decide +kernel) (by decide +kernel)) tyX4 tyX4_ok nmX4 rfl rfl rfl (by decide +kernel)) ?_
  refine bz_ac (show bz_rok cX4_copy none 46 0 from Or.inl ⟨rfl, rfl, by decide +kernel⟩) ?_
  exact bz_an
set_option maxRecDepth 100000 in
theorem bo_X1_keep (l : Launch) : ∀ q ∈ bt_X1_keep, bz_rw bz_P l bm_X1_keep q := by
  refine bz_ac (show bz_ok RX1 cX1_keep 0 (bz_aload 0 1) from bz_o_aload_n (k := 0) (i := 0) (by decide +kernel) rfl) ?_
  refine bz_ac (show bz_ok RX1 cX1_keep 1 (bz_getR 1 0) from bz_o_getR (ci := 1) (k := 0) (idx := 10) (C := RX1) (T := TX1) (N := 3) rfl bh_1 rfl rfl (bz_tb 271 (by decide +kernel) (by decide +kernel)) rfl (by decide +kernel)) ?_
  refine bz_ac (show bz_ok RX1 cX1_keep 4 (bz_aload 1 1) from bz_o_aload_n (k := 1) (i := 1) (by decide +kernel) rfl) ?_
  refine bz_ac (show bz_cok bz_P l RX1 cX1_keep 1 22 5 mX6_copy 2 6 from bz_cV' (own := RX1) (idx := 23) (ci := 5) (N := 4) (T := TX6) (n := 1) bp_X6_copy bq_X6_copy (by decide +kernel) (bz_tb 649 (by decide +kernel) (by decide +kernel)) (bz_tb 396 (by decide +kernel) (by decide +kernel)) (bz_tb 397 (by decide +kernel) (by decide +kernel)) rfl rfl (by decide) (by decide)) ?_
  refine bz_ac (show bz_ok RX1 cX1_keep 8 (bz_aload 0 1) from bz_o_aload_n (k := 0) (i := 0) (by decide +kernel) rfl) ?_
  refine bz_ac (show bz_ok RX1 cX1_keep 9 (bz_getR 1 1) from bz_o_getR (ci := 1) (k := 1) (idx := 19) (C := RX1) (T := TX1) (N := 3) rfl bh_1 rfl rfl (bz_tb 273 (by decide +kernel) (by decide +kernel)) rfl (by decide +kernel)) ?_
  refine bz_ac (show bz_ok RX1 cX1_keep 12 (bz_aload 2 1) from bz_o_aload_n (k := 2) (i := 2) (by decide +kernel) rfl) ?_
  refine bz_ac (show bz_cok bz_P l RX1 cX1_keep 1 22 13 mX4_copy 2 4 from bz_cV' (own := RX1) (idx := 27) (ci := 3) (N := 3) (T := TX4) (n := 1) bp_X4_copy bq_X4_copy (by decide +kernel) (bz_tb 650 (by decide +kernel) (by decide +kernel)) (bz_tb 651 (by decide +kernel) (by decide +kernel)) (bz_tb 652 (by decide +kernel) (by decide +kernel)) rfl rfl (by decide) (by decide)) ?_
  refine bz_ac (show bz_ok RX1 cX1_keep 16 (bz_aload 0 1) from bz_o_aload_n (k := 0) (i := 0) (by decide +kernel) rfl) ?_
  refine bz_ac (show bz_ok RX1 cX1_keep 17 (bz_push (.int 1) 1) from bz_o_iconst (n := 1) (v := 1) (by decide +kernel) (by decide)) ?_
  refine bz_ac (show bz_ok RX1 cX1_keep 18 (bz_putZ 1 2) from bz_o_putZ (ci := 1) (k := 2) (idx := 30) (C := RX1) (T := TX1) (N := 3) rfl bh_1 rfl rfl (bz_tb 275 (by decide +kernel) (by decide +kernel)) tyX1 tyX1_ok nmX1 rfl rfl rfl (by decide +kernel)) ?_
  refine bz_ac (show bz_rok cX1_keep none 21 0 from Or.inl ⟨rfl, rfl, by decide +kernel⟩) ?_
  exact bz_an
set_option maxRecDepth 100000 in
theorem bo_X2_choose (l : Launch) : ∀ q ∈ bt_X2_choose, bz_rw bz_P l bm_X2_choose q := by
  refine bz_ac (show bz_ok RX2 cX2_choose 0 (bz_push (.long 1) 1) from bz_o_lconst (n := 1) (v := 1) (by decide +kernel) (by decide)) ?_
  refine bz_ac (show bz_ok RX2 cX2_choose 1 (bz_lstore 2 1) from bz_o_lstore_n (k := 2) (i := 2) (by decide +kernel) rfl) ?_
  refine bz_ac (show bz_ok RX2 cX2_choose 2 (bz_push (.int 1) 1) from bz_o_iconst (n := 1) (v := 1) (by decide +kernel) (by decide)) ?_
  refine bz_ac (show bz_ok RX2 cX2_choose 3 (bz_istore 4 2) from bz_o_istore (i := 4) (by decide +kernel)) ?_
  refine bz_ac (show bz_ok RX2 cX2_choose 5 (bz_iload 4 2) from bz_o_iload (i := 4) (by decide +kernel)) ?_
  refine bz_ac (show bz_ok RX2 cX2_choose 7 (bz_iload 1 1) from bz_o_iload_n (k := 1) (i := 1) (by decide +kernel) rfl) ?_
  refine bz_ac (show bz_ok RX2 cX2_choose 8 (bz_ic_gt 31) from bz_o_ic_gt (off := 23) (t := 31) (by decide +kernel) (by decide)) ?_
  refine bz_ac (show bz_ok RX2 cX2_choose 11 (bz_lload 2 1) from bz_o_lload_n (k := 2) (i := 2) (by decide +kernel) rfl) ?_
  refine bz_ac (show bz_ok RX2 cX2_choose 12 (bz_iload 0 1) from bz_o_iload_n (k := 0) (i := 0) (by decide +kernel) rfl) ?_
  refine bz_ac (show bz_ok RX2 cX2_choose 13 (bz_iload 1 1) from bz_o_iload_n (k := 1) (i := 1) (by decide +kernel) rfl) ?_
  refine bz_ac (show bz_ok RX2 cX2_choose 14 (bz_isub) from bz_o_isub (by decide +kernel)) ?_
  refine bz_ac (show bz_ok RX2 cX2_choose 15 (bz_iload 4 2) from bz_o_iload (i := 4) (by decide +kernel)) ?_
  refine bz_ac (show bz_ok RX2 cX2_choose 17 (bz_iadd) from bz_o_iadd (by decide +kernel)) ?_
  refine bz_ac (show bz_ok RX2 cX2_choose 18 (bz_i2l) from bz_o_i2l (by decide +kernel)) ?_
  refine bz_ac (show bz_ok RX2 cX2_choose 19 (bz_lmul) from bz_o_lmul (by decide +kernel)) ?_
  refine bz_ac (show bz_ok RX2 cX2_choose 20 (bz_iload 4 2) from bz_o_iload (i := 4) (by decide +kernel)) ?_
  refine bz_ac (show bz_ok RX2 cX2_choose 22 (bz_i2l) from bz_o_i2l (by decide +kernel)) ?_
  refine bz_ac (show bz_ok RX2 cX2_choose 23 (bz_ldiv) from bz_o_ldiv (by decide +kernel)) ?_
  refine bz_ac (show bz_ok RX2 cX2_choose 24 (bz_lstore 2 1) from bz_o_lstore_n (k := 2) (i := 2) (by decide +kernel) rfl) ?_
  refine bz_ac (show bz_ok RX2 cX2_choose 25 (bz_iinc 4 1) from bz_o_iinc (i := 4) (n := 1) (v := 1) (by decide +kernel) (by decide)) ?_
  refine bz_ac (show bz_ok RX2 cX2_choose 28 (bz_goto 5) from bz_o_goto (off := (-23)) (t := 5) (by decide +kernel) (by decide)) ?_
  refine bz_ac (show bz_ok RX2 cX2_choose 31 (bz_lload 2 1) from bz_o_lload_n (k := 2) (i := 2) (by decide +kernel) rfl) ?_
  refine bz_ac (show bz_rok cX2_choose (some .long) 32 2 from Or.inr (Or.inr (Or.inl ⟨rfl, rfl, by decide +kernel⟩))) ?_
  exact bz_an
set_option maxRecDepth 100000 in
theorem bo_X2_power (l : Launch) : ∀ q ∈ bt_X2_power, bz_rw bz_P l bm_X2_power q := by
  refine bz_ac (show bz_ok RX2 cX2_power 0 (bz_push (.long 1) 1) from bz_o_lconst (n := 1) (v := 1) (by decide +kernel) (by decide)) ?_
  refine bz_ac (show bz_ok RX2 cX2_power 1 (bz_lstore 2 1) from bz_o_lstore_n (k := 2) (i := 2) (by decide +kernel) rfl) ?_
  refine bz_ac (show bz_ok RX2 cX2_power 2 (bz_push (.int 0) 1) from bz_o_iconst (n := 0) (v := 0) (by decide +kernel) (by decide)) ?_
  refine bz_ac (show bz_ok RX2 cX2_power 3 (bz_istore 4 2) from bz_o_istore (i := 4) (by decide +kernel)) ?_
  refine bz_ac (show bz_ok RX2 cX2_power 5 (bz_iload 4 2) from bz_o_iload (i := 4) (by decide +kernel)) ?_
  refine bz_ac (show bz_ok RX2 cX2_power 7 (bz_iload 1 1) from bz_o_iload_n (k := 1) (i := 1) (by decide +kernel) rfl) ?_
  refine bz_ac (show bz_ok RX2 cX2_power 8 (bz_ic_ge 22) from bz_o_ic_ge (off := 14) (t := 22) (by decide +kernel) (by decide)) ?_
  refine bz_ac (show bz_ok RX2 cX2_power 11 (bz_lload 2 1) from bz_o_lload_n (k := 2) (i := 2) (by decide +kernel) rfl) ?_
  refine bz_ac (show bz_ok RX2 cX2_power 12 (bz_iload 0 1) from bz_o_iload_n (k := 0) (i := 0) (by decide +kernel) rfl) ?_
  refine bz_ac (show bz_ok RX2 cX2_power 13 (bz_i2l) from bz_o_i2l (by decide +kernel)) ?_
  refine bz_ac (show bz_ok RX2 cX2_power 14 (bz_lmul) from bz_o_lmul (by decide +kernel)) ?_
  refine bz_ac (show bz_ok RX2 cX2_power 15 (bz_lstore 2 1) from bz_o_lstore_n (k := 2) (i := 2) (by decide +kernel) rfl) ?_
  refine bz_ac (show bz_ok RX2 cX2_power 16 (bz_iinc 4 1) from bz_o_iinc (i := 4) (n := 1) (v := 1) (by decide +kernel) (by decide)) ?_
  refine bz_ac (show bz_ok RX2 cX2_power 19 (bz_goto 5) from bz_o_goto (off := (-14)) (t := 5) (by decide +kernel) (by decide)) ?_
  refine bz_ac (show bz_ok RX2 cX2_power 22 (bz_lload 2 1) from bz_o_lload_n (k := 2) (i := 2) (by decide +kernel) rfl) ?_
  refine bz_ac (show bz_rok cX2_power (some .long) 23 2 from Or.inr (Or.inr (Or.inl ⟨rfl, rfl, by decide +kernel⟩))) ?_
  exact bz_an
set_option maxRecDepth 100000 in
theorem bo_X2_winning (l : Launch) : ∀ q ∈ bt_X2_winning, bz_rw bz_P l bm_X2_winning q := by
  refine bz_ac (show bz_ok RX2 cX2_winning 0 (bz_push (.long 0) 1) from bz_o_lconst (n := 0) (v := 0) (by decide +kernel) (by decide)) ?_
  refine bz_ac (show bz_ok RX2 cX2_winning 1 (bz_lstore 3 1) from bz_o_lstore_n (k := 3) (i := 3) (by decide +kernel) rfl) ?_
  refine bz_ac (show bz_ok RX2 cX2_winning 2 (bz_push (.int 0) 1) from bz_o_iconst (n := 0) (v := 0) (by decide +kernel) (by decide)) ?_
  refine bz_ac (show bz_ok RX2 cX2_winning 3 (bz_istore 5 2) from bz_o_istore (i := 5) (by decide +kernel)) ?_
  refine bz_ac (show bz_ok RX2 cX2_winning 5 (bz_iload 5 2) from bz_o_iload (i := 5) (by decide +kernel)) ?_
  refine bz_ac (show bz_ok RX2 cX2_winning 7 (bz_iload 1 1) from bz_o_iload_n (k := 1) (i := 1) (by decide +kernel) rfl) ?_
  refine bz_ac (show bz_ok RX2 cX2_winning 8 (bz_ic_ge 59) from bz_o_ic_ge (off := 51) (t := 59) (by decide +kernel) (by decide)) ?_
  refine bz_ac (show bz_ok RX2 cX2_winning 11 (bz_lload 3 1) from bz_o_lload_n (k := 3) (i := 3) (by decide +kernel) rfl) ?_
  refine bz_ac (show bz_ok RX2 cX2_winning 12 (bz_iload 0 1) from bz_o_iload_n (k := 0) (i := 0) (by decide +kernel) rfl) ?_
  refine bz_ac (show bz_ok RX2 cX2_winning 13 (bz_push (.int 1) 1) from bz_o_iconst (n := 1) (v := 1) (by decide +kernel) (by decide)) ?_
  refine bz_ac (show bz_ok RX2 cX2_winning 14 (bz_isub) from bz_o_isub (by decide +kernel)) ?_
  refine bz_ac (show bz_ok RX2 cX2_winning 15 (bz_iload 5 2) from bz_o_iload (i := 5) (by decide +kernel)) ?_
  refine bz_ac (show bz_ok RX2 cX2_winning 17 (bz_iadd) from bz_o_iadd (by decide +kernel)) ?_
  refine bz_ac (show bz_ok RX2 cX2_winning 18 (bz_iload 5 2) from bz_o_iload (i := 5) (by decide +kernel)) ?_
  refine bz_ac (show bz_cok bz_P l RX2 cX2_winning 1 24 20 mX2_choose 2 0 from bz_cS' (own := RX2) (idx := 7) (n := 2) bp_X2_choose bq_X2_choose (by decide +kernel) (bz_tb 619 (by decide +kernel) (by decide +kernel)) (bz_tb 620 (by decide +kernel) (by decide +kernel)) rfl (by decide) (by decide)) ?_
  refine bz_ac (show bz_ok RX2 cX2_winning 23 (bz_iload 2 1) from bz_o_iload_n (k := 2) (i := 2) (by decide +kernel) rfl) ?_
  refine bz_ac (show bz_ok RX2 cX2_winning 24 (bz_iload 0 1) from bz_o_iload_n (k := 0) (i := 0) (by decide +kernel) rfl) ?_
  refine bz_ac (show bz_cok bz_P l RX2 cX2_winning 1 24 25 mX2_power 2 0 from bz_cS' (own := RX2) (idx := 13) (n := 2) bp_X2_power bq_X2_power (by decide +kernel) (bz_tb 622 (by decide +kernel) (by decide +kernel)) (bz_tb 614 (by decide +kernel) (by decide +kernel)) rfl (by decide) (by decide)) ?_
  refine bz_ac (show bz_ok RX2 cX2_winning 28 (bz_lmul) from bz_o_lmul (by decide +kernel)) ?_
  refine bz_ac (show bz_ok RX2 cX2_winning 29 (bz_push (.int 10) 2) from bz_o_bipush (n := 10) (v := 10) (by decide +kernel) (by decide)) ?_
  refine bz_ac (show bz_ok RX2 cX2_winning 31 (bz_iload 2 1) from bz_o_iload_n (k := 2) (i := 2) (by decide +kernel) rfl) ?_
  refine bz_ac (show bz_ok RX2 cX2_winning 32 (bz_isub) from bz_o_isub (by decide +kernel)) ?_
  refine bz_ac (show bz_ok RX2 cX2_winning 33 (bz_iload 5 2) from bz_o_iload (i := 5) (by decide +kernel)) ?_
  refine bz_ac (show bz_cok bz_P l RX2 cX2_winning 1 24 35 mX2_power 2 0 from bz_cS' (own := RX2) (idx := 13) (n := 2) bp_X2_power bq_X2_power (by decide +kernel) (bz_tb 622 (by decide +kernel) (by decide +kernel)) (bz_tb 614 (by decide +kernel) (by decide +kernel)) rfl (by decide) (by decide)) ?_
  refine bz_ac (show bz_ok RX2 cX2_winning 38 (bz_lmul) from bz_o_lmul (by decide +kernel)) ?_
  refine bz_ac (show bz_ok RX2 cX2_winning 39 (bz_push (.int 10) 2) from bz_o_bipush (n := 10) (v := 10) (by decide +kernel) (by decide)) ?_
  refine bz_ac (show bz_ok RX2 cX2_winning 41 (bz_iload 1 1) from bz_o_iload_n (k := 1) (i := 1) (by decide +kernel) rfl) ?_
  refine bz_ac (show bz_ok RX2 cX2_winning 42 (bz_push (.int 1) 1) from bz_o_iconst (n := 1) (v := 1) (by decide +kernel) (by decide)) ?_
  refine bz_ac (show bz_ok RX2 cX2_winning 43 (bz_isub) from bz_o_isub (by decide +kernel)) ?_
  refine bz_ac (show bz_ok RX2 cX2_winning 44 (bz_iload 5 2) from bz_o_iload (i := 5) (by decide +kernel)) ?_
  refine bz_ac (show bz_ok RX2 cX2_winning 46 (bz_isub) from bz_o_isub (by decide +kernel)) ?_
  refine bz_ac (show bz_cok bz_P l RX2 cX2_winning 1 24 47 mX2_power 2 0 from bz_cS' (own := RX2) (idx := 13) (n := 2) bp_X2_power bq_X2_power (by decide +kernel) (bz_tb 622 (by decide +kernel) (by decide +kernel)) (bz_tb 614 (by decide +kernel) (by decide +kernel)) rfl (by decide) (by decide)) ?_
  refine bz_ac (show bz_ok RX2 cX2_winning 50 (bz_lmul) from bz_o_lmul (by decide +kernel)) ?_
  refine bz_ac (show bz_ok RX2 cX2_winning 51 (bz_ladd) from bz_o_ladd (by decide +kernel)) ?_
  refine bz_ac (show bz_ok RX2 cX2_winning 52 (bz_lstore 3 1) from bz_o_lstore_n (k := 3) (i := 3) (by decide +kernel) rfl) ?_
  refine bz_ac (show bz_ok RX2 cX2_winning 53 (bz_iinc 5 1) from bz_o_iinc (i := 5) (n := 1) (v := 1) (by decide +kernel) (by decide)) ?_
  refine bz_ac (show bz_ok RX2 cX2_winning 56 (bz_goto 5) from bz_o_goto (off := (-51)) (t := 5) (by decide +kernel) (by decide)) ?_
  refine bz_ac (show bz_ok RX2 cX2_winning 59 (bz_lload 3 1) from bz_o_lload_n (k := 3) (i := 3) (by decide +kernel) rfl) ?_
  refine bz_ac (show bz_rok cX2_winning (some .long) 60 2 from Or.inr (Or.inr (Or.inl ⟨rfl, rfl, by decide +kernel⟩))) ?_
  exact bz_an
set_option maxRecDepth 100000 in
theorem bo_X2_games (l : Launch) : ∀ q ∈ bt_X2_games, bz_rw bz_P l bm_X2_games q := by
  refine bz_ac (show bz_ok RX2 cX2_games 0 (bz_push (.long 0) 1) from bz_o_lconst (n := 0) (v := 0) (by decide +kernel) (by decide)) ?_
  refine bz_ac (show bz_ok RX2 cX2_games 1 (bz_lstore 3 1) from bz_o_lstore_n (k := 3) (i := 3) (by decide +kernel) rfl) ?_
  refine bz_ac (show bz_ok RX2 cX2_games 2 (bz_push (.int 0) 1) from bz_o_iconst (n := 0) (v := 0) (by decide +kernel) (by decide)) ?_
  refine bz_ac (show bz_ok RX2 cX2_games 3 (bz_istore 5 2) from bz_o_istore (i := 5) (by decide +kernel)) ?_
  refine bz_ac (show bz_ok RX2 cX2_games 5 (bz_iload 5 2) from bz_o_iload (i := 5) (by decide +kernel)) ?_
  refine bz_ac (show bz_ok RX2 cX2_games 7 (bz_iload 0 1) from bz_o_iload_n (k := 0) (i := 0) (by decide +kernel) rfl) ?_
  refine bz_ac (show bz_ok RX2 cX2_games 8 (bz_ic_ge 79) from bz_o_ic_ge (off := 71) (t := 79) (by decide +kernel) (by decide)) ?_
  refine bz_ac (show bz_ok RX2 cX2_games 11 (bz_push (.int 0) 1) from bz_o_iconst (n := 0) (v := 0) (by decide +kernel) (by decide)) ?_
  refine bz_ac (show bz_ok RX2 cX2_games 12 (bz_istore 6 2) from bz_o_istore (i := 6) (by decide +kernel)) ?_
  refine bz_ac (show bz_ok RX2 cX2_games 14 (bz_iload 6 2) from bz_o_iload (i := 6) (by decide +kernel)) ?_
  refine bz_ac (show bz_ok RX2 cX2_games 16 (bz_iload 1 1) from bz_o_iload_n (k := 1) (i := 1) (by decide +kernel) rfl) ?_
  refine bz_ac (show bz_ok RX2 cX2_games 17 (bz_ic_ge 73) from bz_o_ic_ge (off := 56) (t := 73) (by decide +kernel) (by decide)) ?_
  refine bz_ac (show bz_ok RX2 cX2_games 20 (bz_lload 3 1) from bz_o_lload_n (k := 3) (i := 3) (by decide +kernel) rfl) ?_
  refine bz_ac (show bz_ok RX2 cX2_games 21 (bz_iload 5 2) from bz_o_iload (i := 5) (by decide +kernel)) ?_
  refine bz_ac (show bz_ok RX2 cX2_games 23 (bz_iload 6 2) from bz_o_iload (i := 6) (by decide +kernel)) ?_
  refine bz_ac (show bz_ok RX2 cX2_games 25 (bz_iadd) from bz_o_iadd (by decide +kernel)) ?_
  refine bz_ac (show bz_ok RX2 cX2_games 26 (bz_iload 6 2) from bz_o_iload (i := 6) (by decide +kernel)) ?_
  refine bz_ac (show bz_cok bz_P l RX2 cX2_games 1 24 28 mX2_choose 2 0 from bz_cS' (own := RX2) (idx := 7) (n := 2) bp_X2_choose bq_X2_choose (by decide +kernel) (bz_tb 619 (by decide +kernel) (by decide +kernel)) (bz_tb 620 (by decide +kernel) (by decide +kernel)) rfl (by decide) (by decide)) ?_
  refine bz_ac (show bz_ok RX2 cX2_games 31 (bz_iload 2 1) from bz_o_iload_n (k := 2) (i := 2) (by decide +kernel) rfl) ?_
  refine bz_ac (show bz_ok RX2 cX2_games 32 (bz_iload 5 2) from bz_o_iload (i := 5) (by decide +kernel)) ?_
  refine bz_ac (show bz_cok bz_P l RX2 cX2_games 1 24 34 mX2_power 2 0 from bz_cS' (own := RX2) (idx := 13) (n := 2) bp_X2_power bq_X2_power (by decide +kernel) (bz_tb 622 (by decide +kernel) (by decide +kernel)) (bz_tb 614 (by decide +kernel) (by decide +kernel)) rfl (by decide) (by decide)) ?_
  refine bz_ac (show bz_ok RX2 cX2_games 37 (bz_lmul) from bz_o_lmul (by decide +kernel)) ?_
  refine bz_ac (show bz_ok RX2 cX2_games 38 (bz_push (.int 10) 2) from bz_o_bipush (n := 10) (v := 10) (by decide +kernel) (by decide)) ?_
  refine bz_ac (show bz_ok RX2 cX2_games 40 (bz_iload 2 1) from bz_o_iload_n (k := 2) (i := 2) (by decide +kernel) rfl) ?_
  refine bz_ac (show bz_ok RX2 cX2_games 41 (bz_isub) from bz_o_isub (by decide +kernel)) ?_
  refine bz_ac (show bz_ok RX2 cX2_games 42 (bz_iload 6 2) from bz_o_iload (i := 6) (by decide +kernel)) ?_
  refine bz_ac (show bz_cok bz_P l RX2 cX2_games 1 24 44 mX2_power 2 0 from bz_cS' (own := RX2) (idx := 13) (n := 2) bp_X2_power bq_X2_power (by decide +kernel) (bz_tb 622 (by decide +kernel) (by decide +kernel)) (bz_tb 614 (by decide +kernel) (by decide +kernel)) rfl (by decide) (by decide)) ?_
  refine bz_ac (show bz_ok RX2 cX2_games 47 (bz_lmul) from bz_o_lmul (by decide +kernel)) ?_
  refine bz_ac (show bz_ok RX2 cX2_games 48 (bz_push (.int 10) 2) from bz_o_bipush (n := 10) (v := 10) (by decide +kernel) (by decide)) ?_
  refine bz_ac (show bz_ok RX2 cX2_games 50 (bz_iload 0 1) from bz_o_iload_n (k := 0) (i := 0) (by decide +kernel) rfl) ?_
  refine bz_ac (show bz_ok RX2 cX2_games 51 (bz_iload 1 1) from bz_o_iload_n (k := 1) (i := 1) (by decide +kernel) rfl) ?_
  refine bz_ac (show bz_ok RX2 cX2_games 52 (bz_iadd) from bz_o_iadd (by decide +kernel)) ?_
  refine bz_ac (show bz_ok RX2 cX2_games 53 (bz_push (.int 1) 1) from bz_o_iconst (n := 1) (v := 1) (by decide +kernel) (by decide)) ?_
  refine bz_ac (show bz_ok RX2 cX2_games 54 (bz_isub) from bz_o_isub (by decide +kernel)) ?_
  refine bz_ac (show bz_ok RX2 cX2_games 55 (bz_iload 5 2) from bz_o_iload (i := 5) (by decide +kernel)) ?_
  refine bz_ac (show bz_ok RX2 cX2_games 57 (bz_isub) from bz_o_isub (by decide +kernel)) ?_
  refine bz_ac (show bz_ok RX2 cX2_games 58 (bz_iload 6 2) from bz_o_iload (i := 6) (by decide +kernel)) ?_
  refine bz_ac (show bz_ok RX2 cX2_games 60 (bz_isub) from bz_o_isub (by decide +kernel)) ?_
  refine bz_ac (show bz_cok bz_P l RX2 cX2_games 1 24 61 mX2_power 2 0 from bz_cS' (own := RX2) (idx := 13) (n := 2) bp_X2_power bq_X2_power (by decide +kernel) (bz_tb 622 (by decide +kernel) (by decide +kernel)) (bz_tb 614 (by decide +kernel) (by decide +kernel)) rfl (by decide) (by decide)) ?_
  refine bz_ac (show bz_ok RX2 cX2_games 64 (bz_lmul) from bz_o_lmul (by decide +kernel)) ?_
  refine bz_ac (show bz_ok RX2 cX2_games 65 (bz_ladd) from bz_o_ladd (by decide +kernel)) ?_
  refine bz_ac (show bz_ok RX2 cX2_games 66 (bz_lstore 3 1) from bz_o_lstore_n (k := 3) (i := 3) (by decide +kernel) rfl) ?_
  refine bz_ac (show bz_ok RX2 cX2_games 67 (bz_iinc 6 1) from bz_o_iinc (i := 6) (n := 1) (v := 1) (by decide +kernel) (by decide)) ?_
  refine bz_ac (show bz_ok RX2 cX2_games 70 (bz_goto 14) from bz_o_goto (off := (-56)) (t := 14) (by decide +kernel) (by decide)) ?_
  refine bz_ac (show bz_ok RX2 cX2_games 73 (bz_iinc 5 1) from bz_o_iinc (i := 5) (n := 1) (v := 1) (by decide +kernel) (by decide)) ?_
  refine bz_ac (show bz_ok RX2 cX2_games 76 (bz_goto 5) from bz_o_goto (off := (-71)) (t := 5) (by decide +kernel) (by decide)) ?_
  refine bz_ac (show bz_ok RX2 cX2_games 79 (bz_lload 3 1) from bz_o_lload_n (k := 3) (i := 3) (by decide +kernel) rfl) ?_
  refine bz_ac (show bz_rok cX2_games (some .long) 80 2 from Or.inr (Or.inr (Or.inl ⟨rfl, rfl, by decide +kernel⟩))) ?_
  exact bz_an
set_option maxRecDepth 100000 in
theorem bo_X2_commonDivisor (l : Launch) : ∀ q ∈ bt_X2_commonDivisor, bz_rw bz_P l bm_X2_commonDivisor q := by
  refine bz_ac (show bz_ok RX2 cX2_commonDivisor 0 (bz_lload 0 1) from bz_o_lload_n (k := 0) (i := 0) (by decide +kernel) rfl) ?_
  refine bz_ac (show bz_ok RX2 cX2_commonDivisor 1 (bz_lstore 4 2) from bz_o_lstore (i := 4) (by decide +kernel)) ?_
  refine bz_ac (show bz_ok RX2 cX2_commonDivisor 3 (bz_lload 2 1) from bz_o_lload_n (k := 2) (i := 2) (by decide +kernel) rfl) ?_
  refine bz_ac (show bz_ok RX2 cX2_commonDivisor 4 (bz_lstore 6 2) from bz_o_lstore (i := 6) (by decide +kernel)) ?_
  refine bz_ac (show bz_ok RX2 cX2_commonDivisor 6 (bz_push (.int 0) 1) from bz_o_iconst (n := 0) (v := 0) (by decide +kernel) (by decide)) ?_
  refine bz_ac (show bz_ok RX2 cX2_commonDivisor 7 (bz_istore 8 2) from bz_o_istore (i := 8) (by decide +kernel)) ?_
  refine bz_ac (show bz_ok RX2 cX2_commonDivisor 9 (bz_iload 8 2) from bz_o_iload (i := 8) (by decide +kernel)) ?_
  refine bz_ac (show bz_ok RX2 cX2_commonDivisor 11 (bz_push (.int 1000) 3) from bz_o_sipush (n := 1000) (v := 1000) (by decide +kernel) (by decide)) ?_
  refine bz_ac (show bz_ok RX2 cX2_commonDivisor 14 (bz_ic_ge 45) from bz_o_ic_ge (off := 31) (t := 45) (by decide +kernel) (by decide)) ?_
  refine bz_ac (show bz_ok RX2 cX2_commonDivisor 17 (bz_lload 6 2) from bz_o_lload (i := 6) (by decide +kernel)) ?_
  refine bz_ac (show bz_ok RX2 cX2_commonDivisor 19 (bz_push (.long 0) 1) from bz_o_lconst (n := 0) (v := 0) (by decide +kernel) (by decide)) ?_
  refine bz_ac (show bz_ok RX2 cX2_commonDivisor 20 (bz_lcmp) from bz_o_lcmp (by decide +kernel)) ?_
  refine bz_ac (show bz_ok RX2 cX2_commonDivisor 21 (bz_if_eq 45) from bz_o_if_eq (off := 24) (t := 45) (by decide +kernel) (by decide)) ?_
  refine bz_ac (show bz_ok RX2 cX2_commonDivisor 24 (bz_lload 4 2) from bz_o_lload (i := 4) (by decide +kernel)) ?_
  refine bz_ac (show bz_ok RX2 cX2_commonDivisor 26 (bz_lload 6 2) from bz_o_lload (i := 6) (by decide +kernel)) ?_
  refine bz_ac (show bz_ok RX2 cX2_commonDivisor 28 (bz_lrem) from bz_o_lrem (by decide +kernel)) ?_
  refine bz_ac (show bz_ok RX2 cX2_commonDivisor 29 (bz_lstore 9 2) from bz_o_lstore (i := 9) (by decide +kernel)) ?_
  refine bz_ac (show bz_ok RX2 cX2_commonDivisor 31 (bz_lload 6 2) from bz_o_lload (i := 6) (by decide +kernel)) ?_
  refine bz_ac (show bz_ok RX2 cX2_commonDivisor 33 (bz_lstore 4 2) from bz_o_lstore (i := 4) (by decide +kernel)) ?_
  refine bz_ac (show bz_ok RX2 cX2_commonDivisor 35 (bz_lload 9 2) from bz_o_lload (i := 9) (by decide +kernel)) ?_
  refine bz_ac (show bz_ok RX2 cX2_commonDivisor 37 (bz_lstore 6 2) from bz_o_lstore (i := 6) (by decide +kernel)) ?_
  refine bz_ac (show bz_ok RX2 cX2_commonDivisor 39 (bz_iinc 8 1) from bz_o_iinc (i := 8) (n := 1) (v := 1) (by decide +kernel) (by decide)) ?_
  refine bz_ac (show bz_ok RX2 cX2_commonDivisor 42 (bz_goto 9) from bz_o_goto (off := (-33)) (t := 9) (by decide +kernel) (by decide)) ?_
  refine bz_ac (show bz_ok RX2 cX2_commonDivisor 45 (bz_lload 4 2) from bz_o_lload (i := 4) (by decide +kernel)) ?_
  refine bz_ac (show bz_rok cX2_commonDivisor (some .long) 47 2 from Or.inr (Or.inr (Or.inl ⟨rfl, rfl, by decide +kernel⟩))) ?_
  exact bz_an
set_option maxRecDepth 100000 in
theorem bo_X3_add (l : Launch) : ∀ q ∈ bt_X3_add, bz_rw bz_P l bm_X3_add q := by
  refine bz_ac (show bz_ok RX3 cX3_add 0 (bz_aload 0 1) from bz_o_aload_n (k := 0) (i := 0) (by decide +kernel) rfl) ?_
  refine bz_ac (show bz_ok RX3 cX3_add 1 (bz_getI 2 1) from bz_o_getI (ci := 2) (k := 1) (idx := 15) (C := RX3) (T := TX3) (N := 2) rfl bh_2 rfl rfl (bz_tb 122 (by decide +kernel) (by decide +kernel)) (Or.inl rfl) (by decide +kernel)) ?_
  refine bz_ac (show bz_ok RX3 cX3_add 4 (bz_push (.int 60) 2) from bz_o_bipush (n := 60) (v := 60) (by decide +kernel) (by decide)) ?_
  refine bz_ac (show bz_ok RX3 cX3_add 6 (bz_ic_lt 11) from bz_o_ic_lt (off := 5) (t := 11) (by decide +kernel) (by decide)) ?_
  refine bz_ac (show bz_ok RX3 cX3_add 9 (bz_push (.int 0) 1) from bz_o_iconst (n := 0) (v := 0) (by decide +kernel) (by decide)) ?_
  refine bz_ac (show bz_rok cX3_add (some .boolean) 10 3 from Or.inr (Or.inr (Or.inr ⟨rfl, rfl, by decide +kernel⟩))) ?_
  refine bz_ac (show bz_ok RX3 cX3_add 11 (bz_aload 0 1) from bz_o_aload_n (k := 0) (i := 0) (by decide +kernel) rfl) ?_
  refine bz_ac (show bz_ok RX3 cX3_add 12 (bz_getR 2 0) from bz_o_getR (ci := 2) (k := 0) (idx := 9) (C := RX3) (T := TX3) (N := 2) rfl bh_2 rfl rfl (bz_tb 121 (by decide +kernel) (by decide +kernel)) rfl (by decide +kernel)) ?_
  refine bz_ac (show bz_ok RX3 cX3_add 15 (bz_aload 0 1) from bz_o_aload_n (k := 0) (i := 0) (by decide +kernel) rfl) ?_
  refine bz_ac (show bz_ok RX3 cX3_add 16 (bz_getI 2 1) from bz_o_getI (ci := 2) (k := 1) (idx := 15) (C := RX3) (T := TX3) (N := 2) rfl bh_2 rfl rfl (bz_tb 122 (by decide +kernel) (by decide +kernel)) (Or.inl rfl) (by decide +kernel)) ?_
  refine bz_ac (show bz_ok RX3 cX3_add 19 (bz_iload 1 1) from bz_o_iload_n (k := 1) (i := 1) (by decide +kernel) rfl) ?_
  refine bz_ac (show bz_ok RX3 cX3_add 20 (bz_iast) from bz_o_iast (by decide +kernel)) ?_
  refine bz_ac (show bz_ok RX3 cX3_add 21 (bz_aload 0 1) from bz_o_aload_n (k := 0) (i := 0) (by decide +kernel) rfl) ?_
  refine bz_ac (show bz_ok RX3 cX3_add 22 (bz_dup) from bz_o_dup (by decide +kernel)) ?_
  refine bz_ac (show bz_ok RX3 cX3_add 23 (bz_getI 2 1) from bz_o_getI (ci := 2) (k := 1) (idx := 15) (C := RX3) (T := TX3) (N := 2) rfl bh_2 rfl rfl (bz_tb 122 (by decide +kernel) (by decide +kernel)) (Or.inl rfl) (by decide +kernel)) ?_
  refine bz_ac (show bz_ok RX3 cX3_add 26 (bz_push (.int 1) 1) from bz_o_iconst (n := 1) (v := 1) (by decide +kernel) (by decide)) ?_
  refine bz_ac (show bz_ok RX3 cX3_add 27 (bz_iadd) from bz_o_iadd (by decide +kernel)) ?_
  refine bz_ac (show bz_ok RX3 cX3_add 28 (bz_putI 2 1) from bz_o_putI (ci := 2) (k := 1) (idx := 15) (C := RX3) (T := TX3) (N := 2) rfl bh_2 rfl rfl (bz_tb 122 (by decide +kernel) (by decide +kernel)) tyX3 tyX3_ok nmX3 rfl rfl rfl (by decide +kernel)) ?_
  refine bz_ac (show bz_ok RX3 cX3_add 31 (bz_push (.int 1) 1) from bz_o_iconst (n := 1) (v := 1) (by decide +kernel) (by decide)) ?_
  refine bz_ac (show bz_rok cX3_add (some .boolean) 32 3 from Or.inr (Or.inr (Or.inr ⟨rfl, rfl, by decide +kernel⟩))) ?_
  exact bz_an
set_option maxRecDepth 100000 in
theorem bo_X3_empty (l : Launch) : ∀ q ∈ bt_X3_empty, bz_rw bz_P l bm_X3_empty q := by
  refine bz_ac (show bz_ok RX3 cX3_empty 0 (bz_aload 0 1) from bz_o_aload_n (k := 0) (i := 0) (by decide +kernel) rfl) ?_
  refine bz_ac (show bz_ok RX3 cX3_empty 1 (bz_getI 2 1) from bz_o_getI (ci := 2) (k := 1) (idx := 15) (C := RX3) (T := TX3) (N := 2) rfl bh_2 rfl rfl (bz_tb 122 (by decide +kernel) (by decide +kernel)) (Or.inl rfl) (by decide +kernel)) ?_
  refine bz_ac (show bz_ok RX3 cX3_empty 4 (bz_istore 1 1) from bz_o_istore_n (k := 1) (i := 1) (by decide +kernel) rfl) ?_
  refine bz_ac (show bz_ok RX3 cX3_empty 5 (bz_aload 0 1) from bz_o_aload_n (k := 0) (i := 0) (by decide +kernel) rfl) ?_
  refine bz_ac (show bz_ok RX3 cX3_empty 6 (bz_push (.int 0) 1) from bz_o_iconst (n := 0) (v := 0) (by decide +kernel) (by decide)) ?_
  refine bz_ac (show bz_ok RX3 cX3_empty 7 (bz_putI 2 1) from bz_o_putI (ci := 2) (k := 1) (idx := 15) (C := RX3) (T := TX3) (N := 2) rfl bh_2 rfl rfl (bz_tb 122 (by decide +kernel) (by decide +kernel)) tyX3 tyX3_ok nmX3 rfl rfl rfl (by decide +kernel)) ?_
  refine bz_ac (show bz_ok RX3 cX3_empty 10 (bz_iload 1 1) from bz_o_iload_n (k := 1) (i := 1) (by decide +kernel) rfl) ?_
  refine bz_ac (show bz_rok cX3_empty (some .int) 11 1 from Or.inr (Or.inl ⟨rfl, rfl, by decide +kernel⟩)) ?_
  exact bz_an
set_option maxRecDepth 100000 in
theorem bo_X10_isWithin (l : Launch) : ∀ q ∈ bt_X10_isWithin, bz_rw bz_P l bm_X10_isWithin q := by
  refine bz_ac (show bz_ok RX10 cX10_isWithin 0 (bz_iload 0 1) from bz_o_iload_n (k := 0) (i := 0) (by decide +kernel) rfl) ?_
  refine bz_ac (show bz_ok RX10 cX10_isWithin 1 (bz_iload 1 1) from bz_o_iload_n (k := 1) (i := 1) (by decide +kernel) rfl) ?_
  refine bz_ac (show bz_ok RX10 cX10_isWithin 2 (bz_ic_lt 14) from bz_o_ic_lt (off := 12) (t := 14) (by decide +kernel) (by decide)) ?_
  refine bz_ac (show bz_ok RX10 cX10_isWithin 5 (bz_iload 0 1) from bz_o_iload_n (k := 0) (i := 0) (by decide +kernel) rfl) ?_
  refine bz_ac (show bz_ok RX10 cX10_isWithin 6 (bz_iload 2 1) from bz_o_iload_n (k := 2) (i := 2) (by decide +kernel) rfl) ?_
  refine bz_ac (show bz_ok RX10 cX10_isWithin 7 (bz_ic_gt 14) from bz_o_ic_gt (off := 7) (t := 14) (by decide +kernel) (by decide)) ?_
  refine bz_ac (show bz_ok RX10 cX10_isWithin 10 (bz_push (.int 1) 1) from bz_o_iconst (n := 1) (v := 1) (by decide +kernel) (by decide)) ?_
  refine bz_ac (show bz_ok RX10 cX10_isWithin 11 (bz_goto 15) from bz_o_goto (off := 4) (t := 15) (by decide +kernel) (by decide)) ?_
  refine bz_ac (show bz_ok RX10 cX10_isWithin 14 (bz_push (.int 0) 1) from bz_o_iconst (n := 0) (v := 0) (by decide +kernel) (by decide)) ?_
  refine bz_ac (show bz_rok cX10_isWithin (some .boolean) 15 3 from Or.inr (Or.inr (Or.inr ⟨rfl, rfl, by decide +kernel⟩))) ?_
  exact bz_an
set_option maxRecDepth 100000 in
theorem bo_X3_signAt (l : Launch) : ∀ q ∈ bt_X3_signAt, bz_rw bz_P l bm_X3_signAt q := by
  refine bz_ac (show bz_ok RX3 cX3_signAt 0 (bz_iload 1 1) from bz_o_iload_n (k := 1) (i := 1) (by decide +kernel) rfl) ?_
  refine bz_ac (show bz_ok RX3 cX3_signAt 1 (bz_push (.int 0) 1) from bz_o_iconst (n := 0) (v := 0) (by decide +kernel) (by decide)) ?_
  refine bz_ac (show bz_ok RX3 cX3_signAt 2 (bz_aload 0 1) from bz_o_aload_n (k := 0) (i := 0) (by decide +kernel) rfl) ?_
  refine bz_ac (show bz_ok RX3 cX3_signAt 3 (bz_getI 2 1) from bz_o_getI (ci := 2) (k := 1) (idx := 15) (C := RX3) (T := TX3) (N := 2) rfl bh_2 rfl rfl (bz_tb 122 (by decide +kernel) (by decide +kernel)) (Or.inl rfl) (by decide +kernel)) ?_
  refine bz_ac (show bz_ok RX3 cX3_signAt 6 (bz_push (.int 1) 1) from bz_o_iconst (n := 1) (v := 1) (by decide +kernel) (by decide)) ?_
  refine bz_ac (show bz_ok RX3 cX3_signAt 7 (bz_isub) from bz_o_isub (by decide +kernel)) ?_
  refine bz_ac (show bz_cok bz_P l RX3 cX3_signAt 1 22 8 mX10_isWithin 3 0 from bz_cN' (own := RX3) (host := "BaizeCorps") (idx := 19) (n := 3) bp_X10_isWithin bq_X10_isWithin (by decide +kernel) (bz_nb 375 (by decide +kernel) rfl) (bz_tb 323 (by decide +kernel) (by decide +kernel)) rfl (by decide) (by decide)) ?_
  refine bz_ac (show bz_ok RX3 cX3_signAt 11 (bz_if_eq 23) from bz_o_if_eq (off := 12) (t := 23) (by decide +kernel) (by decide)) ?_
  refine bz_ac (show bz_ok RX3 cX3_signAt 14 (bz_aload 0 1) from bz_o_aload_n (k := 0) (i := 0) (by decide +kernel) rfl) ?_
  refine bz_ac (show bz_ok RX3 cX3_signAt 15 (bz_getR 2 0) from bz_o_getR (ci := 2) (k := 0) (idx := 9) (C := RX3) (T := TX3) (N := 2) rfl bh_2 rfl rfl (bz_tb 121 (by decide +kernel) (by decide +kernel)) rfl (by decide +kernel)) ?_
  refine bz_ac (show bz_ok RX3 cX3_signAt 18 (bz_iload 1 1) from bz_o_iload_n (k := 1) (i := 1) (by decide +kernel) rfl) ?_
  refine bz_ac (show bz_ok RX3 cX3_signAt 19 (bz_iald) from bz_o_iald (by decide +kernel)) ?_
  refine bz_ac (show bz_ok RX3 cX3_signAt 20 (bz_goto 24) from bz_o_goto (off := 4) (t := 24) (by decide +kernel) (by decide)) ?_
  refine bz_ac (show bz_ok RX3 cX3_signAt 23 (bz_push (.int 0) 1) from bz_o_iconst (n := 0) (v := 0) (by decide +kernel) (by decide)) ?_
  refine bz_ac (show bz_rok cX3_signAt (some .int) 24 1 from Or.inr (Or.inl ⟨rfl, rfl, by decide +kernel⟩)) ?_
  exact bz_an
set_option maxRecDepth 100000 in
theorem bo_X3_isLetter (l : Launch) : ∀ q ∈ bt_X3_isLetter, bz_rw bz_P l bm_X3_isLetter q := by
  refine bz_ac (show bz_ok RX3 cX3_isLetter 0 (bz_iload 0 1) from bz_o_iload_n (k := 0) (i := 0) (by decide +kernel) rfl) ?_
  refine bz_ac (show bz_ok RX3 cX3_isLetter 1 (bz_push (.int 65) 2) from bz_o_bipush (n := 65) (v := 65) (by decide +kernel) (by decide)) ?_
  refine bz_ac (show bz_ok RX3 cX3_isLetter 3 (bz_push (.int 67) 2) from bz_o_bipush (n := 67) (v := 67) (by decide +kernel) (by decide)) ?_
  refine bz_ac (show bz_cok bz_P l RX3 cX3_isLetter 1 22 5 mX10_isWithin 3 0 from bz_cN' (own := RX3) (host := "BaizeCorps") (idx := 19) (n := 3) bp_X10_isWithin bq_X10_isWithin (by decide +kernel) (bz_nb 375 (by decide +kernel) rfl) (bz_tb 323 (by decide +kernel) (by decide +kernel)) rfl (by decide) (by decide)) ?_
  refine bz_ac (show bz_rok cX3_isLetter (some .boolean) 8 3 from Or.inr (Or.inr (Or.inr ⟨rfl, rfl, by decide +kernel⟩))) ?_
  exact bz_an
set_option maxRecDepth 100000 in
theorem bo_X3_canStand (l : Launch) : ∀ q ∈ bt_X3_canStand, bz_rw bz_P l bm_X3_canStand q := by
  refine bz_ac (show bz_ok RX3 cX3_canStand 0 (bz_iload 1 1) from bz_o_iload_n (k := 1) (i := 1) (by decide +kernel) rfl) ?_
  refine bz_ac (show bz_ok RX3 cX3_canStand 1 (bz_switch [(0, 28), (1, 53)] 76) from bz_o_lookup (df := 75) (ps := #[(0, 27), (1, 52)]) (len := 27) (cs := [(0, 28), (1, 53)]) (d := 76) (by decide +kernel) (by decide) (by decide +kernel) (by decide)) ?_
  refine bz_ac (show bz_ok RX3 cX3_canStand 28 (bz_iload 0 1) from bz_o_iload_n (k := 0) (i := 0) (by decide +kernel) rfl) ?_
  refine bz_ac (show bz_cok bz_P l RX3 cX3_canStand 2 42 29 mX3_isLetter 1 0 from bz_cS' (own := RX3) (idx := 30) (n := 1) bp_X3_isLetter bq_X3_isLetter (by decide +kernel) (bz_tb 372 (by decide +kernel) (by decide +kernel)) (bz_tb 373 (by decide +kernel) (by decide +kernel)) rfl (by decide) (by decide)) ?_
  refine bz_ac (show bz_ok RX3 cX3_canStand 32 (bz_if_ne 47) from bz_o_if_ne (off := 15) (t := 47) (by decide +kernel) (by decide)) ?_
  refine bz_ac (show bz_ok RX3 cX3_canStand 35 (bz_iload 0 1) from bz_o_iload_n (k := 0) (i := 0) (by decide +kernel) rfl) ?_
  refine bz_ac (show bz_ok RX3 cX3_canStand 36 (bz_push (.int 126) 2) from bz_o_bipush (n := 126) (v := 126) (by decide +kernel) (by decide)) ?_
  refine bz_ac (show bz_ok RX3 cX3_canStand 38 (bz_ic_eq 47) from bz_o_ic_eq (off := 9) (t := 47) (by decide +kernel) (by decide)) ?_
  refine bz_ac (show bz_ok RX3 cX3_canStand 41 (bz_iload 0 1) from bz_o_iload_n (k := 0) (i := 0) (by decide +kernel) rfl) ?_
  refine bz_ac (show bz_ok RX3 cX3_canStand 42 (bz_push (.int 46) 2) from bz_o_bipush (n := 46) (v := 46) (by decide +kernel) (by decide)) ?_
  refine bz_ac (show bz_ok RX3 cX3_canStand 44 (bz_ic_ne 51) from bz_o_ic_ne (off := 7) (t := 51) (by decide +kernel) (by decide)) ?_
  refine bz_ac (show bz_ok RX3 cX3_canStand 47 (bz_push (.int 1) 1) from bz_o_iconst (n := 1) (v := 1) (by decide +kernel) (by decide)) ?_
  refine bz_ac (show bz_ok RX3 cX3_canStand 48 (bz_goto 52) from bz_o_goto (off := 4) (t := 52) (by decide +kernel) (by decide)) ?_
  refine bz_ac (show bz_ok RX3 cX3_canStand 51 (bz_push (.int 0) 1) from bz_o_iconst (n := 0) (v := 0) (by decide +kernel) (by decide)) ?_
  refine bz_ac (show bz_rok cX3_canStand (some .boolean) 52 3 from Or.inr (Or.inr (Or.inr ⟨rfl, rfl, by decide +kernel⟩))) ?_
  refine bz_ac (show bz_ok RX3 cX3_canStand 53 (bz_iload 0 1) from bz_o_iload_n (k := 0) (i := 0) (by decide +kernel) rfl) ?_
  refine bz_ac (show bz_ok RX3 cX3_canStand 54 (bz_push (.int 48) 2) from bz_o_bipush (n := 48) (v := 48) (by decide +kernel) (by decide)) ?_
  refine bz_ac (show bz_ok RX3 cX3_canStand 56 (bz_push (.int 55) 2) from bz_o_bipush (n := 55) (v := 55) (by decide +kernel) (by decide)) ?_
  refine bz_ac (show bz_cok bz_P l RX3 cX3_canStand 2 42 58 mX10_isWithin 3 0 from bz_cN' (own := RX3) (host := "BaizeCorps") (idx := 19) (n := 3) bp_X10_isWithin bq_X10_isWithin (by decide +kernel) (bz_nb 375 (by decide +kernel) rfl) (bz_tb 323 (by decide +kernel) (by decide +kernel)) rfl (by decide) (by decide)) ?_
  refine bz_ac (show bz_ok RX3 cX3_canStand 61 (bz_if_ne 70) from bz_o_if_ne (off := 9) (t := 70) (by decide +kernel) (by decide)) ?_
  refine bz_ac (show bz_ok RX3 cX3_canStand 64 (bz_iload 0 1) from bz_o_iload_n (k := 0) (i := 0) (by decide +kernel) rfl) ?_
  refine bz_ac (show bz_ok RX3 cX3_canStand 65 (bz_push (.int 94) 2) from bz_o_bipush (n := 94) (v := 94) (by decide +kernel) (by decide)) ?_
  refine bz_ac (show bz_ok RX3 cX3_canStand 67 (bz_ic_ne 74) from bz_o_ic_ne (off := 7) (t := 74) (by decide +kernel) (by decide)) ?_
  refine bz_ac (show bz_ok RX3 cX3_canStand 70 (bz_push (.int 1) 1) from bz_o_iconst (n := 1) (v := 1) (by decide +kernel) (by decide)) ?_
  refine bz_ac (show bz_ok RX3 cX3_canStand 71 (bz_goto 75) from bz_o_goto (off := 4) (t := 75) (by decide +kernel) (by decide)) ?_
  refine bz_ac (show bz_ok RX3 cX3_canStand 74 (bz_push (.int 0) 1) from bz_o_iconst (n := 0) (v := 0) (by decide +kernel) (by decide)) ?_
  refine bz_ac (show bz_rok cX3_canStand (some .boolean) 75 3 from Or.inr (Or.inr (Or.inr ⟨rfl, rfl, by decide +kernel⟩))) ?_
  refine bz_ac (show bz_ok RX3 cX3_canStand 76 (bz_iload 0 1) from bz_o_iload_n (k := 0) (i := 0) (by decide +kernel) rfl) ?_
  refine bz_ac (show bz_ok RX3 cX3_canStand 77 (bz_push (.int 49) 2) from bz_o_bipush (n := 49) (v := 49) (by decide +kernel) (by decide)) ?_
  refine bz_ac (show bz_ok RX3 cX3_canStand 79 (bz_push (.int 57) 2) from bz_o_bipush (n := 57) (v := 57) (by decide +kernel) (by decide)) ?_
  refine bz_ac (show bz_cok bz_P l RX3 cX3_canStand 2 42 81 mX10_isWithin 3 0 from bz_cN' (own := RX3) (host := "BaizeCorps") (idx := 19) (n := 3) bp_X10_isWithin bq_X10_isWithin (by decide +kernel) (bz_nb 375 (by decide +kernel) rfl) (bz_tb 323 (by decide +kernel) (by decide +kernel)) rfl (by decide) (by decide)) ?_
  refine bz_ac (show bz_rok cX3_canStand (some .boolean) 84 3 from Or.inr (Or.inr (Or.inr ⟨rfl, rfl, by decide +kernel⟩))) ?_
  exact bz_an
set_option maxRecDepth 100000 in
theorem bo_X3_isActAt (l : Launch) : ∀ q ∈ bt_X3_isActAt, bz_rw bz_P l bm_X3_isActAt q := by
  refine bz_ac (show bz_ok RX3 cX3_isActAt 0 (bz_iload 1 1) from bz_o_iload_n (k := 1) (i := 1) (by decide +kernel) rfl) ?_
  refine bz_ac (show bz_ok RX3 cX3_isActAt 1 (bz_switch [(0, 28), (1, 41)] 53) from bz_o_lookup (df := 52) (ps := #[(0, 27), (1, 40)]) (len := 27) (cs := [(0, 28), (1, 41)]) (d := 53) (by decide +kernel) (by decide) (by decide +kernel) (by decide)) ?_
  refine bz_ac (show bz_ok RX3 cX3_isActAt 28 (bz_iload 0 1) from bz_o_iload_n (k := 0) (i := 0) (by decide +kernel) rfl) ?_
  refine bz_ac (show bz_cok bz_P l RX3 cX3_isActAt 2 42 29 mX3_isLetter 1 0 from bz_cS' (own := RX3) (idx := 30) (n := 1) bp_X3_isLetter bq_X3_isLetter (by decide +kernel) (bz_tb 372 (by decide +kernel) (by decide +kernel)) (bz_tb 373 (by decide +kernel) (by decide +kernel)) rfl (by decide) (by decide)) ?_
  refine bz_ac (show bz_ok RX3 cX3_isActAt 32 (bz_if_ne 39) from bz_o_if_ne (off := 7) (t := 39) (by decide +kernel) (by decide)) ?_
  refine bz_ac (show bz_ok RX3 cX3_isActAt 35 (bz_push (.int 1) 1) from bz_o_iconst (n := 1) (v := 1) (by decide +kernel) (by decide)) ?_
  refine bz_ac (show bz_ok RX3 cX3_isActAt 36 (bz_goto 40) from bz_o_goto (off := 4) (t := 40) (by decide +kernel) (by decide)) ?_
  refine bz_ac (show bz_ok RX3 cX3_isActAt 39 (bz_push (.int 0) 1) from bz_o_iconst (n := 0) (v := 0) (by decide +kernel) (by decide)) ?_
  refine bz_ac (show bz_rok cX3_isActAt (some .boolean) 40 3 from Or.inr (Or.inr (Or.inr ⟨rfl, rfl, by decide +kernel⟩))) ?_
  refine bz_ac (show bz_ok RX3 cX3_isActAt 41 (bz_iload 0 1) from bz_o_iload_n (k := 0) (i := 0) (by decide +kernel) rfl) ?_
  refine bz_ac (show bz_ok RX3 cX3_isActAt 42 (bz_push (.int 94) 2) from bz_o_bipush (n := 94) (v := 94) (by decide +kernel) (by decide)) ?_
  refine bz_ac (show bz_ok RX3 cX3_isActAt 44 (bz_ic_ne 51) from bz_o_ic_ne (off := 7) (t := 51) (by decide +kernel) (by decide)) ?_
  refine bz_ac (show bz_ok RX3 cX3_isActAt 47 (bz_push (.int 1) 1) from bz_o_iconst (n := 1) (v := 1) (by decide +kernel) (by decide)) ?_
  refine bz_ac (show bz_ok RX3 cX3_isActAt 48 (bz_goto 52) from bz_o_goto (off := 4) (t := 52) (by decide +kernel) (by decide)) ?_
  refine bz_ac (show bz_ok RX3 cX3_isActAt 51 (bz_push (.int 0) 1) from bz_o_iconst (n := 0) (v := 0) (by decide +kernel) (by decide)) ?_
  refine bz_ac (show bz_rok cX3_isActAt (some .boolean) 52 3 from Or.inr (Or.inr (Or.inr ⟨rfl, rfl, by decide +kernel⟩))) ?_
  refine bz_ac (show bz_ok RX3 cX3_isActAt 53 (bz_push (.int 1) 1) from bz_o_iconst (n := 1) (v := 1) (by decide +kernel) (by decide)) ?_
  refine bz_ac (show bz_rok cX3_isActAt (some .boolean) 54 3 from Or.inr (Or.inr (Or.inr ⟨rfl, rfl, by decide +kernel⟩))) ?_
  exact bz_an
set_option maxRecDepth 100000 in
theorem bo_X3_firstFault (l : Launch) : ∀ q ∈ bt_X3_firstFault, bz_rw bz_P l bm_X3_firstFault q := by
  refine bz_ac (show bz_ok RX3 cX3_firstFault 0 (bz_push (.int 0) 1) from bz_o_iconst (n := 0) (v := 0) (by decide +kernel) (by decide)) ?_
  refine bz_ac (show bz_ok RX3 cX3_firstFault 1 (bz_istore 1 1) from bz_o_istore_n (k := 1) (i := 1) (by decide +kernel) rfl) ?_
  refine bz_ac (show bz_ok RX3 cX3_firstFault 2 (bz_push (.int 0) 1) from bz_o_iconst (n := 0) (v := 0) (by decide +kernel) (by decide)) ?_
  refine bz_ac (show bz_ok RX3 cX3_firstFault 3 (bz_istore 2 1) from bz_o_istore_n (k := 2) (i := 2) (by decide +kernel) rfl) ?_
  refine bz_ac (show bz_ok RX3 cX3_firstFault 4 (bz_iload 2 1) from bz_o_iload_n (k := 2) (i := 2) (by decide +kernel) rfl) ?_
  refine bz_ac (show bz_ok RX3 cX3_firstFault 5 (bz_aload 0 1) from bz_o_aload_n (k := 0) (i := 0) (by decide +kernel) rfl) ?_
  refine bz_ac (show bz_ok RX3 cX3_firstFault 6 (bz_getI 2 1) from bz_o_getI (ci := 2) (k := 1) (idx := 15) (C := RX3) (T := TX3) (N := 2) rfl bh_2 rfl rfl (bz_tb 122 (by decide +kernel) (by decide +kernel)) (Or.inl rfl) (by decide +kernel)) ?_
  refine bz_ac (show bz_ok RX3 cX3_firstFault 9 (bz_ic_ge 51) from bz_o_ic_ge (off := 42) (t := 51) (by decide +kernel) (by decide)) ?_
  refine bz_ac (show bz_ok RX3 cX3_firstFault 12 (bz_aload 0 1) from bz_o_aload_n (k := 0) (i := 0) (by decide +kernel) rfl) ?_
  refine bz_ac (show bz_ok RX3 cX3_firstFault 13 (bz_getR 2 0) from bz_o_getR (ci := 2) (k := 0) (idx := 9) (C := RX3) (T := TX3) (N := 2) rfl bh_2 rfl rfl (bz_tb 121 (by decide +kernel) (by decide +kernel)) rfl (by decide +kernel)) ?_
  refine bz_ac (show bz_ok RX3 cX3_firstFault 16 (bz_iload 2 1) from bz_o_iload_n (k := 2) (i := 2) (by decide +kernel) rfl) ?_
  refine bz_ac (show bz_ok RX3 cX3_firstFault 17 (bz_iald) from bz_o_iald (by decide +kernel)) ?_
  refine bz_ac (show bz_ok RX3 cX3_firstFault 18 (bz_istore 3 1) from bz_o_istore_n (k := 3) (i := 3) (by decide +kernel) rfl) ?_
  refine bz_ac (show bz_ok RX3 cX3_firstFault 19 (bz_iload 3 1) from bz_o_iload_n (k := 3) (i := 3) (by decide +kernel) rfl) ?_
  refine bz_ac (show bz_ok RX3 cX3_firstFault 20 (bz_iload 1 1) from bz_o_iload_n (k := 1) (i := 1) (by decide +kernel) rfl) ?_
  refine bz_ac (show bz_cok bz_P l RX3 cX3_firstFault 3 63 21 mX3_canStand 2 0 from bz_cS' (own := RX3) (idx := 23) (n := 2) bp_X3_canStand bq_X3_canStand (by decide +kernel) (bz_tb 369 (by decide +kernel) (by decide +kernel)) (bz_tb 370 (by decide +kernel) (by decide +kernel)) rfl (by decide) (by decide)) ?_
  refine bz_ac (show bz_ok RX3 cX3_firstFault 24 (bz_if_ne 29) from bz_o_if_ne (off := 5) (t := 29) (by decide +kernel) (by decide)) ?_
  refine bz_ac (show bz_ok RX3 cX3_firstFault 27 (bz_iload 2 1) from bz_o_iload_n (k := 2) (i := 2) (by decide +kernel) rfl) ?_
  refine bz_ac (show bz_rok cX3_firstFault (some .int) 28 1 from Or.inr (Or.inl ⟨rfl, rfl, by decide +kernel⟩)) ?_
  refine bz_ac (show bz_ok RX3 cX3_firstFault 29 (bz_iload 3 1) from bz_o_iload_n (k := 3) (i := 3) (by decide +kernel) rfl) ?_
  refine bz_ac (show bz_ok RX3 cX3_firstFault 30 (bz_iload 1 1) from bz_o_iload_n (k := 1) (i := 1) (by decide +kernel) rfl) ?_
  refine bz_ac (show bz_cok bz_P l RX3 cX3_firstFault 3 63 31 mX3_isActAt 2 0 from bz_cS' (own := RX3) (idx := 27) (n := 2) bp_X3_isActAt bq_X3_isActAt (by decide +kernel) (bz_tb 376 (by decide +kernel) (by decide +kernel)) (bz_tb 377 (by decide +kernel) (by decide +kernel)) rfl (by decide) (by decide)) ?_
  refine bz_ac (show bz_ok RX3 cX3_firstFault 34 (bz_if_eq 41) from bz_o_if_eq (off := 7) (t := 41) (by decide +kernel) (by decide)) ?_
  refine bz_ac (show bz_ok RX3 cX3_firstFault 37 (bz_push (.int 0) 1) from bz_o_iconst (n := 0) (v := 0) (by decide +kernel) (by decide)) ?_
  refine bz_ac (show bz_ok RX3 cX3_firstFault 38 (bz_goto 44) from bz_o_goto (off := 6) (t := 44) (by decide +kernel) (by decide)) ?_
  refine bz_ac (show bz_ok RX3 cX3_firstFault 41 (bz_iload 1 1) from bz_o_iload_n (k := 1) (i := 1) (by decide +kernel) rfl) ?_
  refine bz_ac (show bz_ok RX3 cX3_firstFault 42 (bz_push (.int 1) 1) from bz_o_iconst (n := 1) (v := 1) (by decide +kernel) (by decide)) ?_
  refine bz_ac (show bz_ok RX3 cX3_firstFault 43 (bz_iadd) from bz_o_iadd (by decide +kernel)) ?_
  refine bz_ac (show bz_ok RX3 cX3_firstFault 44 (bz_istore 1 1) from bz_o_istore_n (k := 1) (i := 1) (by decide +kernel) rfl) ?_
  refine bz_ac (show bz_ok RX3 cX3_firstFault 45 (bz_iinc 2 1) from bz_o_iinc (i := 2) (n := 1) (v := 1) (by decide +kernel) (by decide)) ?_
  refine bz_ac (show bz_ok RX3 cX3_firstFault 48 (bz_goto 4) from bz_o_goto (off := (-44)) (t := 4) (by decide +kernel) (by decide)) ?_
  refine bz_ac (show bz_ok RX3 cX3_firstFault 51 (bz_iload 1 1) from bz_o_iload_n (k := 1) (i := 1) (by decide +kernel) rfl) ?_
  refine bz_ac (show bz_ok RX3 cX3_firstFault 52 (bz_if_ne 60) from bz_o_if_ne (off := 8) (t := 60) (by decide +kernel) (by decide)) ?_
  refine bz_ac (show bz_ok RX3 cX3_firstFault 55 (bz_push (.int (-6)) 2) from bz_o_bipush (n := (-6)) (v := (-6)) (by decide +kernel) (by decide)) ?_
  refine bz_ac (show bz_ok RX3 cX3_firstFault 57 (bz_goto 64) from bz_o_goto (off := 7) (t := 64) (by decide +kernel) (by decide)) ?_
  refine bz_ac (show bz_ok RX3 cX3_firstFault 60 (bz_aload 0 1) from bz_o_aload_n (k := 0) (i := 0) (by decide +kernel) rfl) ?_
  refine bz_ac (show bz_ok RX3 cX3_firstFault 61 (bz_getI 2 1) from bz_o_getI (ci := 2) (k := 1) (idx := 15) (C := RX3) (T := TX3) (N := 2) rfl bh_2 rfl rfl (bz_tb 122 (by decide +kernel) (by decide +kernel)) (Or.inl rfl) (by decide +kernel)) ?_
  refine bz_ac (show bz_rok cX3_firstFault (some .int) 64 1 from Or.inr (Or.inl ⟨rfl, rfl, by decide +kernel⟩)) ?_
  exact bz_an
set_option maxRecDepth 100000 in
theorem bo_X3_actKind (l : Launch) : ∀ q ∈ bt_X3_actKind, bz_rw bz_P l bm_X3_actKind q := by
  refine bz_ac (show bz_ok RX3 cX3_actKind 0 (bz_aload 0 1) from bz_o_aload_n (k := 0) (i := 0) (by decide +kernel) rfl) ?_
  refine bz_ac (show bz_ok RX3 cX3_actKind 1 (bz_iload 1 1) from bz_o_iload_n (k := 1) (i := 1) (by decide +kernel) rfl) ?_
  refine bz_ac (show bz_cok bz_P l RX3 cX3_actKind 2 43 2 mX3_signAt 2 3 from bz_cV' (own := RX3) (idx := 34) (ci := 2) (N := 2) (T := TX3) (n := 1) bp_X3_signAt bq_X3_signAt (by decide +kernel) (bz_tb 403 (by decide +kernel) (by decide +kernel)) (bz_tb 404 (by decide +kernel) (by decide +kernel)) (bz_tb 405 (by decide +kernel) (by decide +kernel)) rfl rfl (by decide) (by decide)) ?_
  refine bz_ac (show bz_cok bz_P l RX3 cX3_actKind 2 43 5 mX3_isLetter 1 0 from bz_cS' (own := RX3) (idx := 30) (n := 1) bp_X3_isLetter bq_X3_isLetter (by decide +kernel) (bz_tb 372 (by decide +kernel) (by decide +kernel)) (bz_tb 373 (by decide +kernel) (by decide +kernel)) rfl (by decide) (by decide)) ?_
  refine bz_ac (show bz_ok RX3 cX3_actKind 8 (bz_if_ne 27) from bz_o_if_ne (off := 19) (t := 27) (by decide +kernel) (by decide)) ?_
  refine bz_ac (show bz_ok RX3 cX3_actKind 11 (bz_aload 0 1) from bz_o_aload_n (k := 0) (i := 0) (by decide +kernel) rfl) ?_
  refine bz_ac (show bz_ok RX3 cX3_actKind 12 (bz_iload 1 1) from bz_o_iload_n (k := 1) (i := 1) (by decide +kernel) rfl) ?_
  refine bz_ac (show bz_cok bz_P l RX3 cX3_actKind 2 43 13 mX3_signAt 2 3 from bz_cV' (own := RX3) (idx := 34) (ci := 2) (N := 2) (T := TX3) (n := 1) bp_X3_signAt bq_X3_signAt (by decide +kernel) (bz_tb 403 (by decide +kernel) (by decide +kernel)) (bz_tb 404 (by decide +kernel) (by decide +kernel)) (bz_tb 405 (by decide +kernel) (by decide +kernel)) rfl rfl (by decide) (by decide)) ?_
  refine bz_ac (show bz_ok RX3 cX3_actKind 16 (bz_push (.int 126) 2) from bz_o_bipush (n := 126) (v := 126) (by decide +kernel) (by decide)) ?_
  refine bz_ac (show bz_ok RX3 cX3_actKind 18 (bz_ic_ne 25) from bz_o_ic_ne (off := 7) (t := 25) (by decide +kernel) (by decide)) ?_
  refine bz_ac (show bz_ok RX3 cX3_actKind 21 (bz_push (.int 2) 1) from bz_o_iconst (n := 2) (v := 2) (by decide +kernel) (by decide)) ?_
  refine bz_ac (show bz_ok RX3 cX3_actKind 22 (bz_goto 26) from bz_o_goto (off := 4) (t := 26) (by decide +kernel) (by decide)) ?_
  refine bz_ac (show bz_ok RX3 cX3_actKind 25 (bz_push (.int 3) 1) from bz_o_iconst (n := 3) (v := 3) (by decide +kernel) (by decide)) ?_
  refine bz_ac (show bz_rok cX3_actKind (some .int) 26 1 from Or.inr (Or.inl ⟨rfl, rfl, by decide +kernel⟩)) ?_
  refine bz_ac (show bz_ok RX3 cX3_actKind 27 (bz_aload 0 1) from bz_o_aload_n (k := 0) (i := 0) (by decide +kernel) rfl) ?_
  refine bz_ac (show bz_ok RX3 cX3_actKind 28 (bz_iload 1 1) from bz_o_iload_n (k := 1) (i := 1) (by decide +kernel) rfl) ?_
  refine bz_ac (show bz_ok RX3 cX3_actKind 29 (bz_push (.int 1) 1) from bz_o_iconst (n := 1) (v := 1) (by decide +kernel) (by decide)) ?_
  refine bz_ac (show bz_ok RX3 cX3_actKind 30 (bz_iadd) from bz_o_iadd (by decide +kernel)) ?_
  refine bz_ac (show bz_cok bz_P l RX3 cX3_actKind 2 43 31 mX3_signAt 2 3 from bz_cV' (own := RX3) (idx := 34) (ci := 2) (N := 2) (T := TX3) (n := 1) bp_X3_signAt bq_X3_signAt (by decide +kernel) (bz_tb 403 (by decide +kernel) (by decide +kernel)) (bz_tb 404 (by decide +kernel) (by decide +kernel)) (bz_tb 405 (by decide +kernel) (by decide +kernel)) rfl rfl (by decide) (by decide)) ?_
  refine bz_ac (show bz_ok RX3 cX3_actKind 34 (bz_push (.int 94) 2) from bz_o_bipush (n := 94) (v := 94) (by decide +kernel) (by decide)) ?_
  refine bz_ac (show bz_ok RX3 cX3_actKind 36 (bz_ic_ne 43) from bz_o_ic_ne (off := 7) (t := 43) (by decide +kernel) (by decide)) ?_
  refine bz_ac (show bz_ok RX3 cX3_actKind 39 (bz_push (.int 1) 1) from bz_o_iconst (n := 1) (v := 1) (by decide +kernel) (by decide)) ?_
  refine bz_ac (show bz_ok RX3 cX3_actKind 40 (bz_goto 44) from bz_o_goto (off := 4) (t := 44) (by decide +kernel) (by decide)) ?_
  refine bz_ac (show bz_ok RX3 cX3_actKind 43 (bz_push (.int 0) 1) from bz_o_iconst (n := 0) (v := 0) (by decide +kernel) (by decide)) ?_
  refine bz_ac (show bz_rok cX3_actKind (some .int) 44 1 from Or.inr (Or.inl ⟨rfl, rfl, by decide +kernel⟩)) ?_
  exact bz_an
set_option maxRecDepth 100000 in
theorem bo_X3_actLength (l : Launch) : ∀ q ∈ bt_X3_actLength, bz_rw bz_P l bm_X3_actLength q := by
  refine bz_ac (show bz_ok RX3 cX3_actLength 0 (bz_aload 0 1) from bz_o_aload_n (k := 0) (i := 0) (by decide +kernel) rfl) ?_
  refine bz_ac (show bz_ok RX3 cX3_actLength 1 (bz_iload 1 1) from bz_o_iload_n (k := 1) (i := 1) (by decide +kernel) rfl) ?_
  refine bz_ac (show bz_cok bz_P l RX3 cX3_actLength 3 64 2 mX3_actKind 2 3 from bz_cV' (own := RX3) (idx := 38) (ci := 2) (N := 2) (T := TX3) (n := 1) bp_X3_actKind bq_X3_actKind (by decide +kernel) (bz_tb 467 (by decide +kernel) (by decide +kernel)) (bz_tb 400 (by decide +kernel) (by decide +kernel)) (bz_tb 401 (by decide +kernel) (by decide +kernel)) rfl rfl (by decide) (by decide)) ?_
  refine bz_ac (show bz_ok RX3 cX3_actLength 5 (bz_switch [(0, 32), (1, 34)] 36) from bz_o_lookup (df := 31) (ps := #[(0, 27), (1, 29)]) (len := 27) (cs := [(0, 32), (1, 34)]) (d := 36) (by decide +kernel) (by decide) (by decide +kernel) (by decide)) ?_
  refine bz_ac (show bz_ok RX3 cX3_actLength 32 (bz_push (.int 3) 1) from bz_o_iconst (n := 3) (v := 3) (by decide +kernel) (by decide)) ?_
  refine bz_ac (show bz_rok cX3_actLength (some .int) 33 1 from Or.inr (Or.inl ⟨rfl, rfl, by decide +kernel⟩)) ?_
  refine bz_ac (show bz_ok RX3 cX3_actLength 34 (bz_push (.int 2) 1) from bz_o_iconst (n := 2) (v := 2) (by decide +kernel) (by decide)) ?_
  refine bz_ac (show bz_rok cX3_actLength (some .int) 35 1 from Or.inr (Or.inl ⟨rfl, rfl, by decide +kernel⟩)) ?_
  refine bz_ac (show bz_ok RX3 cX3_actLength 36 (bz_push (.int 1) 1) from bz_o_iconst (n := 1) (v := 1) (by decide +kernel) (by decide)) ?_
  refine bz_ac (show bz_rok cX3_actLength (some .int) 37 1 from Or.inr (Or.inl ⟨rfl, rfl, by decide +kernel⟩)) ?_
  exact bz_an
set_option maxRecDepth 100000 in
theorem bo_X4_add (l : Launch) : ∀ q ∈ bt_X4_add, bz_rw bz_P l bm_X4_add q := by
  refine bz_ac (show bz_ok RX4 cX4_add 0 (bz_aload 0 1) from bz_o_aload_n (k := 0) (i := 0) (by decide +kernel) rfl) ?_
  refine bz_ac (show bz_ok RX4 cX4_add 1 (bz_getI 3 2) from bz_o_getI (ci := 3) (k := 2) (idx := 18) (C := RX4) (T := TX4) (N := 3) rfl bh_3 rfl rfl (bz_tb 106 (by decide +kernel) (by decide +kernel)) (Or.inl rfl) (by decide +kernel)) ?_
  refine bz_ac (show bz_ok RX4 cX4_add 4 (bz_push (.int 8) 2) from bz_o_bipush (n := 8) (v := 8) (by decide +kernel) (by decide)) ?_
  refine bz_ac (show bz_ok RX4 cX4_add 6 (bz_ic_lt 11) from bz_o_ic_lt (off := 5) (t := 11) (by decide +kernel) (by decide)) ?_
  refine bz_ac (show bz_ok RX4 cX4_add 9 (bz_push (.int 0) 1) from bz_o_iconst (n := 0) (v := 0) (by decide +kernel) (by decide)) ?_
  refine bz_ac (show bz_rok cX4_add (some .boolean) 10 3 from Or.inr (Or.inr (Or.inr ⟨rfl, rfl, by decide +kernel⟩))) ?_
  refine bz_ac (show bz_ok RX4 cX4_add 11 (bz_aload 0 1) from bz_o_aload_n (k := 0) (i := 0) (by decide +kernel) rfl) ?_
  refine bz_ac (show bz_ok RX4 cX4_add 12 (bz_getR 3 0) from bz_o_getR (ci := 3) (k := 0) (idx := 9) (C := RX4) (T := TX4) (N := 3) rfl bh_3 rfl rfl (bz_tb 104 (by decide +kernel) (by decide +kernel)) rfl (by decide +kernel)) ?_
  refine bz_ac (show bz_ok RX4 cX4_add 15 (bz_aload 0 1) from bz_o_aload_n (k := 0) (i := 0) (by decide +kernel) rfl) ?_
  refine bz_ac (show bz_ok RX4 cX4_add 16 (bz_getI 3 2) from bz_o_getI (ci := 3) (k := 2) (idx := 18) (C := RX4) (T := TX4) (N := 3) rfl bh_3 rfl rfl (bz_tb 106 (by decide +kernel) (by decide +kernel)) (Or.inl rfl) (by decide +kernel)) ?_
  refine bz_ac (show bz_ok RX4 cX4_add 19 (bz_iload 1 1) from bz_o_iload_n (k := 1) (i := 1) (by decide +kernel) rfl) ?_
  refine bz_ac (show bz_ok RX4 cX4_add 20 (bz_iast) from bz_o_iast (by decide +kernel)) ?_
  refine bz_ac (show bz_ok RX4 cX4_add 21 (bz_aload 0 1) from bz_o_aload_n (k := 0) (i := 0) (by decide +kernel) rfl) ?_
  refine bz_ac (show bz_ok RX4 cX4_add 22 (bz_getR 3 1) from bz_o_getR (ci := 3) (k := 1) (idx := 15) (C := RX4) (T := TX4) (N := 3) rfl bh_3 rfl rfl (bz_tb 105 (by decide +kernel) (by decide +kernel)) rfl (by decide +kernel)) ?_
  refine bz_ac (show bz_ok RX4 cX4_add 25 (bz_aload 0 1) from bz_o_aload_n (k := 0) (i := 0) (by decide +kernel) rfl) ?_
  refine bz_ac (show bz_ok RX4 cX4_add 26 (bz_getI 3 2) from bz_o_getI (ci := 3) (k := 2) (idx := 18) (C := RX4) (T := TX4) (N := 3) rfl bh_3 rfl rfl (bz_tb 106 (by decide +kernel) (by decide +kernel)) (Or.inl rfl) (by decide +kernel)) ?_
  refine bz_ac (show bz_ok RX4 cX4_add 29 (bz_iload 2 1) from bz_o_iload_n (k := 2) (i := 2) (by decide +kernel) rfl) ?_
  refine bz_ac (show bz_ok RX4 cX4_add 30 (bz_iast) from bz_o_iast (by decide +kernel)) ?_
  refine bz_ac (show bz_ok RX4 cX4_add 31 (bz_aload 0 1) from bz_o_aload_n (k := 0) (i := 0) (by decide +kernel) rfl) ?_
  refine bz_ac (show bz_ok RX4 cX4_add 32 (bz_dup) from bz_o_dup (by decide +kernel)) ?_
  refine bz_ac (show bz_ok RX4 cX4_add 33 (bz_getI 3 2) from bz_o_getI (ci := 3) (k := 2) (idx := 18) (C := RX4) (T := TX4) (N := 3) rfl bh_3 rfl rfl (bz_tb 106 (by decide +kernel) (by decide +kernel)) (Or.inl rfl) (by decide +kernel)) ?_
  refine bz_ac (show bz_ok RX4 cX4_add 36 (bz_push (.int 1) 1) from bz_o_iconst (n := 1) (v := 1) (by decide +kernel) (by decide)) ?_
  refine bz_ac (show bz_ok RX4 cX4_add 37 (bz_iadd) from bz_o_iadd (by decide +kernel)) ?_
  refine bz_ac (show bz_ok RX4 cX4_add 38 (bz_putI 3 2) from bz_o_putI (ci := 3) (k := 2) (idx := 18) (C := RX4) (T := TX4) (N := 3) rfl bh_3 rfl rfl (bz_tb 106 (by decide +kernel) (by decide +kernel)) tyX4 tyX4_ok nmX4 rfl rfl rfl (by decide +kernel)) ?_
  refine bz_ac (show bz_ok RX4 cX4_add 41 (bz_push (.int 1) 1) from bz_o_iconst (n := 1) (v := 1) (by decide +kernel) (by decide)) ?_
  refine bz_ac (show bz_rok cX4_add (some .boolean) 42 3 from Or.inr (Or.inr (Or.inr ⟨rfl, rfl, by decide +kernel⟩))) ?_
  exact bz_an
set_option maxRecDepth 100000 in
theorem bo_J9_floorMod_7cf53 (l : Launch) : ∀ q ∈ bt_J9_floorMod_7cf53, bz_rw bz_P l bm_J9_floorMod_7cf53 q := by
  refine bz_ac (show bz_ok RJ9 cJ9_floorMod_7cf53 0 (bz_iload 0 1) from bz_o_iload_n (k := 0) (i := 0) (by decide +kernel) rfl) ?_
  refine bz_ac (show bz_ok RJ9 cJ9_floorMod_7cf53 1 (bz_iload 1 1) from bz_o_iload_n (k := 1) (i := 1) (by decide +kernel) rfl) ?_
  refine bz_ac (show bz_ok RJ9 cJ9_floorMod_7cf53 2 (bz_irem) from bz_o_irem (by decide +kernel)) ?_
  refine bz_ac (show bz_ok RJ9 cJ9_floorMod_7cf53 3 (bz_istore 2 1) from bz_o_istore_n (k := 2) (i := 2) (by decide +kernel) rfl) ?_
  refine bz_ac (show bz_ok RJ9 cJ9_floorMod_7cf53 4 (bz_iload 0 1) from bz_o_iload_n (k := 0) (i := 0) (by decide +kernel) rfl) ?_
  refine bz_ac (show bz_ok RJ9 cJ9_floorMod_7cf53 5 (bz_iload 1 1) from bz_o_iload_n (k := 1) (i := 1) (by decide +kernel) rfl) ?_
  refine bz_ac (show bz_ok RJ9 cJ9_floorMod_7cf53 6 (bz_ixor) from bz_o_ixor (by decide +kernel)) ?_
  refine bz_ac (show bz_ok RJ9 cJ9_floorMod_7cf53 7 (bz_if_ge 18) from bz_o_if_ge (off := 11) (t := 18) (by decide +kernel) (by decide)) ?_
  refine bz_ac (show bz_ok RJ9 cJ9_floorMod_7cf53 10 (bz_iload 2 1) from bz_o_iload_n (k := 2) (i := 2) (by decide +kernel) rfl) ?_
  refine bz_ac (show bz_ok RJ9 cJ9_floorMod_7cf53 11 (bz_if_eq 18) from bz_o_if_eq (off := 7) (t := 18) (by decide +kernel) (by decide)) ?_
  refine bz_ac (show bz_ok RJ9 cJ9_floorMod_7cf53 14 (bz_iload 2 1) from bz_o_iload_n (k := 2) (i := 2) (by decide +kernel) rfl) ?_
  refine bz_ac (show bz_ok RJ9 cJ9_floorMod_7cf53 15 (bz_iload 1 1) from bz_o_iload_n (k := 1) (i := 1) (by decide +kernel) rfl) ?_
  refine bz_ac (show bz_ok RJ9 cJ9_floorMod_7cf53 16 (bz_iadd) from bz_o_iadd (by decide +kernel)) ?_
  refine bz_ac (show bz_rok cJ9_floorMod_7cf53 (some .int) 17 1 from Or.inr (Or.inl ⟨rfl, rfl, by decide +kernel⟩)) ?_
  refine bz_ac (show bz_ok RJ9 cJ9_floorMod_7cf53 18 (bz_iload 2 1) from bz_o_iload_n (k := 2) (i := 2) (by decide +kernel) rfl) ?_
  refine bz_ac (show bz_rok cJ9_floorMod_7cf53 (some .int) 19 1 from Or.inr (Or.inl ⟨rfl, rfl, by decide +kernel⟩)) ?_
  exact bz_an
set_option maxRecDepth 100000 in
theorem bo_X7_cellBehind (l : Launch) : ∀ q ∈ bt_X7_cellBehind, bz_rw bz_P l bm_X7_cellBehind q := by
  refine bz_ac (show bz_ok RX7 cX7_cellBehind 0 (bz_aload 0 1) from bz_o_aload_n (k := 0) (i := 0) (by decide +kernel) rfl) ?_
  refine bz_ac (show bz_ok RX7 cX7_cellBehind 1 (bz_getR 6 0) from bz_o_getR (ci := 6) (k := 0) (idx := 9) (C := RX7) (T := TX7) (N := 3) rfl bh_6 rfl rfl (bz_tb 209 (by decide +kernel) (by decide +kernel)) rfl (by decide +kernel)) ?_
  refine bz_ac (show bz_ok RX7 cX7_cellBehind 4 (bz_iload 1 1) from bz_o_iload_n (k := 1) (i := 1) (by decide +kernel) rfl) ?_
  refine bz_ac (show bz_ok RX7 cX7_cellBehind 5 (bz_push (.int 16) 2) from bz_o_bipush (n := 16) (v := 16) (by decide +kernel) (by decide)) ?_
  refine bz_ac (show bz_cok bz_P l RX7 cX7_cellBehind 1 22 7 mJ9_floorMod_7cf53 2 0 from bz_cS' (own := RX7) (idx := 34) (n := 2) bp_J9_floorMod_7cf53 bq_J9_floorMod_7cf53 (by decide +kernel) (bz_tb 516 (by decide +kernel) (by decide +kernel)) (bz_tb 517 (by decide +kernel) (by decide +kernel)) rfl (by decide) (by decide)) ?_
  refine bz_ac (show bz_ok RX7 cX7_cellBehind 10 (bz_iald) from bz_o_iald (by decide +kernel)) ?_
  refine bz_ac (show bz_rok cX7_cellBehind (some .int) 11 1 from Or.inr (Or.inl ⟨rfl, rfl, by decide +kernel⟩)) ?_
  exact bz_an
set_option maxRecDepth 100000 in
theorem bo_X4_allFit (l : Launch) : ∀ q ∈ bt_X4_allFit, bz_rw bz_P l bm_X4_allFit q := by
  refine bz_ac (show bz_ok RX4 cX4_allFit 0 (bz_push (.int 0) 1) from bz_o_iconst (n := 0) (v := 0) (by decide +kernel) (by decide)) ?_
  refine bz_ac (show bz_ok RX4 cX4_allFit 1 (bz_istore 2 1) from bz_o_istore_n (k := 2) (i := 2) (by decide +kernel) rfl) ?_
  refine bz_ac (show bz_ok RX4 cX4_allFit 2 (bz_iload 2 1) from bz_o_iload_n (k := 2) (i := 2) (by decide +kernel) rfl) ?_
  refine bz_ac (show bz_ok RX4 cX4_allFit 3 (bz_aload 0 1) from bz_o_aload_n (k := 0) (i := 0) (by decide +kernel) rfl) ?_
  refine bz_ac (show bz_ok RX4 cX4_allFit 4 (bz_getI 3 2) from bz_o_getI (ci := 3) (k := 2) (idx := 18) (C := RX4) (T := TX4) (N := 3) rfl bh_3 rfl rfl (bz_tb 106 (by decide +kernel) (by decide +kernel)) (Or.inl rfl) (by decide +kernel)) ?_
  refine bz_ac (show bz_ok RX4 cX4_allFit 7 (bz_ic_ge 43) from bz_o_ic_ge (off := 36) (t := 43) (by decide +kernel) (by decide)) ?_
  refine bz_ac (show bz_ok RX4 cX4_allFit 10 (bz_iload 2 1) from bz_o_iload_n (k := 2) (i := 2) (by decide +kernel) rfl) ?_
  refine bz_ac (show bz_ok RX4 cX4_allFit 11 (bz_push (.int 8) 2) from bz_o_bipush (n := 8) (v := 8) (by decide +kernel) (by decide)) ?_
  refine bz_ac (show bz_ok RX4 cX4_allFit 13 (bz_ic_ge 43) from bz_o_ic_ge (off := 30) (t := 43) (by decide +kernel) (by decide)) ?_
  refine bz_ac (show bz_ok RX4 cX4_allFit 16 (bz_aload 1 1) from bz_o_aload_n (k := 1) (i := 1) (by decide +kernel) rfl) ?_
  refine bz_ac (show bz_ok RX4 cX4_allFit 17 (bz_aload 0 1) from bz_o_aload_n (k := 0) (i := 0) (by decide +kernel) rfl) ?_
  refine bz_ac (show bz_ok RX4 cX4_allFit 18 (bz_getR 3 0) from bz_o_getR (ci := 3) (k := 0) (idx := 9) (C := RX4) (T := TX4) (N := 3) rfl bh_3 rfl rfl (bz_tb 104 (by decide +kernel) (by decide +kernel)) rfl (by decide +kernel)) ?_
  refine bz_ac (show bz_ok RX4 cX4_allFit 21 (bz_iload 2 1) from bz_o_iload_n (k := 2) (i := 2) (by decide +kernel) rfl) ?_
  refine bz_ac (show bz_ok RX4 cX4_allFit 22 (bz_iald) from bz_o_iald (by decide +kernel)) ?_
  refine bz_ac (show bz_cok bz_P l RX4 cX4_allFit 2 43 23 mX7_cellBehind 2 7 from bz_cV' (own := RX4) (idx := 22) (ci := 6) (N := 3) (T := TX7) (n := 1) bp_X7_cellBehind bq_X7_cellBehind (by decide +kernel) (bz_tb 567 (by decide +kernel) (by decide +kernel)) (bz_tb 513 (by decide +kernel) (by decide +kernel)) (bz_tb 514 (by decide +kernel) (by decide +kernel)) rfl rfl (by decide) (by decide)) ?_
  refine bz_ac (show bz_ok RX4 cX4_allFit 26 (bz_aload 0 1) from bz_o_aload_n (k := 0) (i := 0) (by decide +kernel) rfl) ?_
  refine bz_ac (show bz_ok RX4 cX4_allFit 27 (bz_getR 3 1) from bz_o_getR (ci := 3) (k := 1) (idx := 15) (C := RX4) (T := TX4) (N := 3) rfl bh_3 rfl rfl (bz_tb 105 (by decide +kernel) (by decide +kernel)) rfl (by decide +kernel)) ?_
  refine bz_ac (show bz_ok RX4 cX4_allFit 30 (bz_iload 2 1) from bz_o_iload_n (k := 2) (i := 2) (by decide +kernel) rfl) ?_
  refine bz_ac (show bz_ok RX4 cX4_allFit 31 (bz_iald) from bz_o_iald (by decide +kernel)) ?_
  refine bz_ac (show bz_ok RX4 cX4_allFit 32 (bz_ic_eq 37) from bz_o_ic_eq (off := 5) (t := 37) (by decide +kernel) (by decide)) ?_
  refine bz_ac (show bz_ok RX4 cX4_allFit 35 (bz_push (.int 0) 1) from bz_o_iconst (n := 0) (v := 0) (by decide +kernel) (by decide)) ?_
  refine bz_ac (show bz_rok cX4_allFit (some .boolean) 36 3 from Or.inr (Or.inr (Or.inr ⟨rfl, rfl, by decide +kernel⟩))) ?_
  refine bz_ac (show bz_ok RX4 cX4_allFit 37 (bz_iinc 2 1) from bz_o_iinc (i := 2) (n := 1) (v := 1) (by decide +kernel) (by decide)) ?_
  refine bz_ac (show bz_ok RX4 cX4_allFit 40 (bz_goto 2) from bz_o_goto (off := (-38)) (t := 2) (by decide +kernel) (by decide)) ?_
  refine bz_ac (show bz_ok RX4 cX4_allFit 43 (bz_push (.int 1) 1) from bz_o_iconst (n := 1) (v := 1) (by decide +kernel) (by decide)) ?_
  refine bz_ac (show bz_rok cX4_allFit (some .boolean) 44 3 from Or.inr (Or.inr (Or.inr ⟨rfl, rfl, by decide +kernel⟩))) ?_
  exact bz_an
set_option maxRecDepth 100000 in
theorem bo_X5_begin (l : Launch) : ∀ q ∈ bt_X5_begin, bz_rw bz_P l bm_X5_begin q := by
  refine bz_ac (show bz_ok RX5 cX5_begin 0 (bz_aload 0 1) from bz_o_aload_n (k := 0) (i := 0) (by decide +kernel) rfl) ?_
  refine bz_ac (show bz_ok RX5 cX5_begin 1 (bz_iload 1 1) from bz_o_iload_n (k := 1) (i := 1) (by decide +kernel) rfl) ?_
  refine bz_ac (show bz_ok RX5 cX5_begin 2 (bz_putI 4 0) from bz_o_putI (ci := 4) (k := 0) (idx := 47) (C := RX5) (T := TX5) (N := 7) rfl bh_4 rfl rfl (bz_tb 144 (by decide +kernel) (by decide +kernel)) tyX5 tyX5_ok nmX5 rfl rfl rfl (by decide +kernel)) ?_
  refine bz_ac (show bz_ok RX5 cX5_begin 5 (bz_aload 0 1) from bz_o_aload_n (k := 0) (i := 0) (by decide +kernel) rfl) ?_
  refine bz_ac (show bz_ok RX5 cX5_begin 6 (bz_push (.int 0) 1) from bz_o_iconst (n := 0) (v := 0) (by decide +kernel) (by decide)) ?_
  refine bz_ac (show bz_ok RX5 cX5_begin 7 (bz_putI 4 1) from bz_o_putI (ci := 4) (k := 1) (idx := 50) (C := RX5) (T := TX5) (N := 7) rfl bh_4 rfl rfl (bz_tb 145 (by decide +kernel) (by decide +kernel)) tyX5 tyX5_ok nmX5 rfl rfl rfl (by decide +kernel)) ?_
  refine bz_ac (show bz_ok RX5 cX5_begin 10 (bz_aload 0 1) from bz_o_aload_n (k := 0) (i := 0) (by decide +kernel) rfl) ?_
  refine bz_ac (show bz_ok RX5 cX5_begin 11 (bz_push (.int 0) 1) from bz_o_iconst (n := 0) (v := 0) (by decide +kernel) (by decide)) ?_
  refine bz_ac (show bz_ok RX5 cX5_begin 12 (bz_putI 4 2) from bz_o_putI (ci := 4) (k := 2) (idx := 29) (C := RX5) (T := TX5) (N := 7) rfl bh_4 rfl rfl (bz_tb 147 (by decide +kernel) (by decide +kernel)) tyX5 tyX5_ok nmX5 rfl rfl rfl (by decide +kernel)) ?_
  refine bz_ac (show bz_ok RX5 cX5_begin 15 (bz_aload 0 1) from bz_o_aload_n (k := 0) (i := 0) (by decide +kernel) rfl) ?_
  refine bz_ac (show bz_ok RX5 cX5_begin 16 (bz_push (.int (-1)) 1) from bz_o_iconst (n := (-1)) (v := (-1)) (by decide +kernel) (by decide)) ?_
  refine bz_ac (show bz_ok RX5 cX5_begin 17 (bz_putI 4 3) from bz_o_putI (ci := 4) (k := 3) (idx := 15) (C := RX5) (T := TX5) (N := 7) rfl bh_4 rfl rfl (bz_tb 149 (by decide +kernel) (by decide +kernel)) tyX5 tyX5_ok nmX5 rfl rfl rfl (by decide +kernel)) ?_
  refine bz_ac (show bz_ok RX5 cX5_begin 20 (bz_aload 0 1) from bz_o_aload_n (k := 0) (i := 0) (by decide +kernel) rfl) ?_
  refine bz_ac (show bz_ok RX5 cX5_begin 21 (bz_push (.int (-1)) 1) from bz_o_iconst (n := (-1)) (v := (-1)) (by decide +kernel) (by decide)) ?_
  refine bz_ac (show bz_ok RX5 cX5_begin 22 (bz_putI 4 4) from bz_o_putI (ci := 4) (k := 4) (idx := 53) (C := RX5) (T := TX5) (N := 7) rfl bh_4 rfl rfl (bz_tb 150 (by decide +kernel) (by decide +kernel)) tyX5 tyX5_ok nmX5 rfl rfl rfl (by decide +kernel)) ?_
  refine bz_ac (show bz_ok RX5 cX5_begin 25 (bz_aload 0 1) from bz_o_aload_n (k := 0) (i := 0) (by decide +kernel) rfl) ?_
  refine bz_ac (show bz_ok RX5 cX5_begin 26 (bz_push (.int (-6)) 2) from bz_o_bipush (n := (-6)) (v := (-6)) (by decide +kernel) (by decide)) ?_
  refine bz_ac (show bz_ok RX5 cX5_begin 28 (bz_putI 4 5) from bz_o_putI (ci := 4) (k := 5) (idx := 56) (C := RX5) (T := TX5) (N := 7) rfl bh_4 rfl rfl (bz_tb 152 (by decide +kernel) (by decide +kernel)) tyX5 tyX5_ok nmX5 rfl rfl rfl (by decide +kernel)) ?_
  refine bz_ac (show bz_ok RX5 cX5_begin 31 (bz_aload 0 1) from bz_o_aload_n (k := 0) (i := 0) (by decide +kernel) rfl) ?_
  refine bz_ac (show bz_ok RX5 cX5_begin 32 (bz_push (.int (-6)) 2) from bz_o_bipush (n := (-6)) (v := (-6)) (by decide +kernel) (by decide)) ?_
  refine bz_ac (show bz_ok RX5 cX5_begin 34 (bz_putI 4 6) from bz_o_putI (ci := 4) (k := 6) (idx := 59) (C := RX5) (T := TX5) (N := 7) rfl bh_4 rfl rfl (bz_tb 154 (by decide +kernel) (by decide +kernel)) tyX5 tyX5_ok nmX5 rfl rfl rfl (by decide +kernel)) ?_
  refine bz_ac (show bz_rok cX5_begin none 37 0 from Or.inl ⟨rfl, rfl, by decide +kernel⟩) ?_
  exact bz_an
set_option maxRecDepth 100000 in
theorem bo_X10_turned (l : Launch) : ∀ q ∈ bt_X10_turned, bz_rw bz_P l bm_X10_turned q := by
  refine bz_ac (show bz_ok RX10 cX10_turned 0 (bz_iload 1 1) from bz_o_iload_n (k := 1) (i := 1) (by decide +kernel) rfl) ?_
  refine bz_ac (show bz_ok RX10 cX10_turned 1 (bz_push (.int 7) 2) from bz_o_bipush (n := 7) (v := 7) (by decide +kernel) (by decide)) ?_
  refine bz_ac (show bz_ok RX10 cX10_turned 3 (bz_iand) from bz_o_iand (by decide +kernel)) ?_
  refine bz_ac (show bz_ok RX10 cX10_turned 4 (bz_istore 2 1) from bz_o_istore_n (k := 2) (i := 2) (by decide +kernel) rfl) ?_
  refine bz_ac (show bz_ok RX10 cX10_turned 5 (bz_iload 0 1) from bz_o_iload_n (k := 0) (i := 0) (by decide +kernel) rfl) ?_
  refine bz_ac (show bz_ok RX10 cX10_turned 6 (bz_push (.int 9) 2) from bz_o_bipush (n := 9) (v := 9) (by decide +kernel) (by decide)) ?_
  refine bz_ac (show bz_ok RX10 cX10_turned 8 (bz_idiv) from bz_o_idiv (by decide +kernel)) ?_
  refine bz_ac (show bz_ok RX10 cX10_turned 9 (bz_push (.ref 1001) 3) from bz_o_gets (own := RX10) (i := 1) (idx := 268) (by decide) (by decide +kernel) (bz_tb 432 (by decide +kernel) (by decide +kernel))) ?_
  refine bz_ac (show bz_ok RX10 cX10_turned 12 (bz_iload 2 1) from bz_o_iload_n (k := 2) (i := 2) (by decide +kernel) rfl) ?_
  refine bz_ac (show bz_ok RX10 cX10_turned 13 (bz_iald) from bz_o_iald (by decide +kernel)) ?_
  refine bz_ac (show bz_ok RX10 cX10_turned 14 (bz_iadd) from bz_o_iadd (by decide +kernel)) ?_
  refine bz_ac (show bz_ok RX10 cX10_turned 15 (bz_istore 3 1) from bz_o_istore_n (k := 3) (i := 3) (by decide +kernel) rfl) ?_
  refine bz_ac (show bz_ok RX10 cX10_turned 16 (bz_iload 0 1) from bz_o_iload_n (k := 0) (i := 0) (by decide +kernel) rfl) ?_
  refine bz_ac (show bz_ok RX10 cX10_turned 17 (bz_push (.int 9) 2) from bz_o_bipush (n := 9) (v := 9) (by decide +kernel) (by decide)) ?_
  refine bz_ac (show bz_ok RX10 cX10_turned 19 (bz_irem) from bz_o_irem (by decide +kernel)) ?_
  refine bz_ac (show bz_ok RX10 cX10_turned 20 (bz_push (.ref 1002) 3) from bz_o_gets (own := RX10) (i := 2) (idx := 271) (by decide) (by decide +kernel) (bz_tb 434 (by decide +kernel) (by decide +kernel))) ?_
  refine bz_ac (show bz_ok RX10 cX10_turned 23 (bz_iload 2 1) from bz_o_iload_n (k := 2) (i := 2) (by decide +kernel) rfl) ?_
  refine bz_ac (show bz_ok RX10 cX10_turned 24 (bz_iald) from bz_o_iald (by decide +kernel)) ?_
  refine bz_ac (show bz_ok RX10 cX10_turned 25 (bz_iadd) from bz_o_iadd (by decide +kernel)) ?_
  refine bz_ac (show bz_ok RX10 cX10_turned 26 (bz_istore 4 2) from bz_o_istore (i := 4) (by decide +kernel)) ?_
  refine bz_ac (show bz_ok RX10 cX10_turned 28 (bz_iload 3 1) from bz_o_iload_n (k := 3) (i := 3) (by decide +kernel) rfl) ?_
  refine bz_ac (show bz_ok RX10 cX10_turned 29 (bz_if_lt 37) from bz_o_if_lt (off := 8) (t := 37) (by decide +kernel) (by decide)) ?_
  refine bz_ac (show bz_ok RX10 cX10_turned 32 (bz_iload 3 1) from bz_o_iload_n (k := 3) (i := 3) (by decide +kernel) rfl) ?_
  refine bz_ac (show bz_ok RX10 cX10_turned 33 (bz_push (.int 5) 1) from bz_o_iconst (n := 5) (v := 5) (by decide +kernel) (by decide)) ?_
  refine bz_ac (show bz_ok RX10 cX10_turned 34 (bz_ic_lt 44) from bz_o_ic_lt (off := 10) (t := 44) (by decide +kernel) (by decide)) ?_
  refine bz_ac (show bz_ok RX10 cX10_turned 37 (bz_push (.int 4) 1) from bz_o_iconst (n := 4) (v := 4) (by decide +kernel) (by decide)) ?_
  refine bz_ac (show bz_ok RX10 cX10_turned 38 (bz_iload 2 1) from bz_o_iload_n (k := 2) (i := 2) (by decide +kernel) rfl) ?_
  refine bz_ac (show bz_ok RX10 cX10_turned 39 (bz_isub) from bz_o_isub (by decide +kernel)) ?_
  refine bz_ac (show bz_ok RX10 cX10_turned 40 (bz_push (.int 7) 2) from bz_o_bipush (n := 7) (v := 7) (by decide +kernel) (by decide)) ?_
  refine bz_ac (show bz_ok RX10 cX10_turned 42 (bz_iand) from bz_o_iand (by decide +kernel)) ?_
  refine bz_ac (show bz_ok RX10 cX10_turned 43 (bz_istore 2 1) from bz_o_istore_n (k := 2) (i := 2) (by decide +kernel) rfl) ?_
  refine bz_ac (show bz_ok RX10 cX10_turned 44 (bz_iload 4 2) from bz_o_iload (i := 4) (by decide +kernel)) ?_
  refine bz_ac (show bz_ok RX10 cX10_turned 46 (bz_if_lt 56) from bz_o_if_lt (off := 10) (t := 56) (by decide +kernel) (by decide)) ?_
  refine bz_ac (show bz_ok RX10 cX10_turned 49 (bz_iload 4 2) from bz_o_iload (i := 4) (by decide +kernel)) ?_
  refine bz_ac (show bz_ok RX10 cX10_turned 51 (bz_push (.int 9) 2) from bz_o_bipush (n := 9) (v := 9) (by decide +kernel) (by decide)) ?_
  refine bz_ac (show bz_ok RX10 cX10_turned 53 (bz_ic_lt 64) from bz_o_ic_lt (off := 11) (t := 64) (by decide +kernel) (by decide)) ?_
  refine bz_ac (show bz_ok RX10 cX10_turned 56 (bz_push (.int 8) 2) from bz_o_bipush (n := 8) (v := 8) (by decide +kernel) (by decide)) ?_
  refine bz_ac (show bz_ok RX10 cX10_turned 58 (bz_iload 2 1) from bz_o_iload_n (k := 2) (i := 2) (by decide +kernel) rfl) ?_
  refine bz_ac (show bz_ok RX10 cX10_turned 59 (bz_isub) from bz_o_isub (by decide +kernel)) ?_
  refine bz_ac (show bz_ok RX10 cX10_turned 60 (bz_push (.int 7) 2) from bz_o_bipush (n := 7) (v := 7) (by decide +kernel) (by decide)) ?_
  refine bz_ac (show bz_ok RX10 cX10_turned 62 (bz_iand) from bz_o_iand (by decide +kernel)) ?_
  refine bz_ac (show bz_ok RX10 cX10_turned 63 (bz_istore 2 1) from bz_o_istore_n (k := 2) (i := 2) (by decide +kernel) rfl) ?_
  refine bz_ac (show bz_ok RX10 cX10_turned 64 (bz_iload 2 1) from bz_o_iload_n (k := 2) (i := 2) (by decide +kernel) rfl) ?_
  refine bz_ac (show bz_rok cX10_turned (some .int) 65 1 from Or.inr (Or.inl ⟨rfl, rfl, by decide +kernel⟩)) ?_
  exact bz_an
set_option maxRecDepth 100000 in
theorem bo_X10_next (l : Launch) : ∀ q ∈ bt_X10_next, bz_rw bz_P l bm_X10_next q := by
  refine bz_ac (show bz_ok RX10 cX10_next 0 (bz_iload 0 1) from bz_o_iload_n (k := 0) (i := 0) (by decide +kernel) rfl) ?_
  refine bz_ac (show bz_ok RX10 cX10_next 1 (bz_push (.int 9) 2) from bz_o_bipush (n := 9) (v := 9) (by decide +kernel) (by decide)) ?_
  refine bz_ac (show bz_ok RX10 cX10_next 3 (bz_push (.ref 1001) 3) from bz_o_gets (own := RX10) (i := 1) (idx := 268) (by decide) (by decide +kernel) (bz_tb 432 (by decide +kernel) (by decide +kernel))) ?_
  refine bz_ac (show bz_ok RX10 cX10_next 6 (bz_iload 1 1) from bz_o_iload_n (k := 1) (i := 1) (by decide +kernel) rfl) ?_
  refine bz_ac (show bz_ok RX10 cX10_next 7 (bz_push (.int 7) 2) from bz_o_bipush (n := 7) (v := 7) (by decide +kernel) (by decide)) ?_
  refine bz_ac (show bz_ok RX10 cX10_next 9 (bz_iand) from bz_o_iand (by decide +kernel)) ?_
  refine bz_ac (show bz_ok RX10 cX10_next 10 (bz_iald) from bz_o_iald (by decide +kernel)) ?_
  refine bz_ac (show bz_ok RX10 cX10_next 11 (bz_imul) from bz_o_imul (by decide +kernel)) ?_
  refine bz_ac (show bz_ok RX10 cX10_next 12 (bz_iadd) from bz_o_iadd (by decide +kernel)) ?_
  refine bz_ac (show bz_ok RX10 cX10_next 13 (bz_push (.ref 1002) 3) from bz_o_gets (own := RX10) (i := 2) (idx := 271) (by decide) (by decide +kernel) (bz_tb 434 (by decide +kernel) (by decide +kernel))) ?_
  refine bz_ac (show bz_ok RX10 cX10_next 16 (bz_iload 1 1) from bz_o_iload_n (k := 1) (i := 1) (by decide +kernel) rfl) ?_
  refine bz_ac (show bz_ok RX10 cX10_next 17 (bz_push (.int 7) 2) from bz_o_bipush (n := 7) (v := 7) (by decide +kernel) (by decide)) ?_
  refine bz_ac (show bz_ok RX10 cX10_next 19 (bz_iand) from bz_o_iand (by decide +kernel)) ?_
  refine bz_ac (show bz_ok RX10 cX10_next 20 (bz_iald) from bz_o_iald (by decide +kernel)) ?_
  refine bz_ac (show bz_ok RX10 cX10_next 21 (bz_iadd) from bz_o_iadd (by decide +kernel)) ?_
  refine bz_ac (show bz_rok cX10_next (some .int) 22 1 from Or.inr (Or.inl ⟨rfl, rfl, by decide +kernel⟩)) ?_
  exact bz_an
set_option maxRecDepth 100000 in
theorem bo_X6_lyingOn (l : Launch) : ∀ q ∈ bt_X6_lyingOn, bz_rw bz_P l bm_X6_lyingOn q := by
  refine bz_ac (show bz_ok RX6 cX6_lyingOn 0 (bz_push (.int 0) 1) from bz_o_iconst (n := 0) (v := 0) (by decide +kernel) (by decide)) ?_
  refine bz_ac (show bz_ok RX6 cX6_lyingOn 1 (bz_istore 2 1) from bz_o_istore_n (k := 2) (i := 2) (by decide +kernel) rfl) ?_
  refine bz_ac (show bz_ok RX6 cX6_lyingOn 2 (bz_iload 2 1) from bz_o_iload_n (k := 2) (i := 2) (by decide +kernel) rfl) ?_
  refine bz_ac (show bz_ok RX6 cX6_lyingOn 3 (bz_push (.int 3) 1) from bz_o_iconst (n := 3) (v := 3) (by decide +kernel) (by decide)) ?_
  refine bz_ac (show bz_ok RX6 cX6_lyingOn 4 (bz_ic_ge 25) from bz_o_ic_ge (off := 21) (t := 25) (by decide +kernel) (by decide)) ?_
  refine bz_ac (show bz_ok RX6 cX6_lyingOn 7 (bz_aload 0 1) from bz_o_aload_n (k := 0) (i := 0) (by decide +kernel) rfl) ?_
  refine bz_ac (show bz_ok RX6 cX6_lyingOn 8 (bz_getR 5 0) from bz_o_getR (ci := 5) (k := 0) (idx := 9) (C := RX6) (T := TX6) (N := 4) rfl bh_5 rfl rfl (bz_tb 75 (by decide +kernel) (by decide +kernel)) rfl (by decide +kernel)) ?_
  refine bz_ac (show bz_ok RX6 cX6_lyingOn 11 (bz_iload 2 1) from bz_o_iload_n (k := 2) (i := 2) (by decide +kernel) rfl) ?_
  refine bz_ac (show bz_ok RX6 cX6_lyingOn 12 (bz_iald) from bz_o_iald (by decide +kernel)) ?_
  refine bz_ac (show bz_ok RX6 cX6_lyingOn 13 (bz_iload 1 1) from bz_o_iload_n (k := 1) (i := 1) (by decide +kernel) rfl) ?_
  refine bz_ac (show bz_ok RX6 cX6_lyingOn 14 (bz_ic_ne 19) from bz_o_ic_ne (off := 5) (t := 19) (by decide +kernel) (by decide)) ?_
  refine bz_ac (show bz_ok RX6 cX6_lyingOn 17 (bz_iload 2 1) from bz_o_iload_n (k := 2) (i := 2) (by decide +kernel) rfl) ?_
  refine bz_ac (show bz_rok cX6_lyingOn (some .int) 18 1 from Or.inr (Or.inl ⟨rfl, rfl, by decide +kernel⟩)) ?_
  refine bz_ac (show bz_ok RX6 cX6_lyingOn 19 (bz_iinc 2 1) from bz_o_iinc (i := 2) (n := 1) (v := 1) (by decide +kernel) (by decide)) ?_
  refine bz_ac (show bz_ok RX6 cX6_lyingOn 22 (bz_goto 2) from bz_o_goto (off := (-20)) (t := 2) (by decide +kernel) (by decide)) ?_
  refine bz_ac (show bz_ok RX6 cX6_lyingOn 25 (bz_push (.int (-1)) 1) from bz_o_iconst (n := (-1)) (v := (-1)) (by decide +kernel) (by decide)) ?_
  refine bz_ac (show bz_rok cX6_lyingOn (some .int) 26 1 from Or.inr (Or.inl ⟨rfl, rfl, by decide +kernel⟩)) ?_
  exact bz_an
set_option maxRecDepth 100000 in
theorem bo_X5_touch (l : Launch) : ∀ q ∈ bt_X5_touch, bz_rw bz_P l bm_X5_touch q := by
  refine bz_ac (show bz_ok RX5 cX5_touch 0 (bz_aload 0 1) from bz_o_aload_n (k := 0) (i := 0) (by decide +kernel) rfl) ?_
  refine bz_ac (show bz_ok RX5 cX5_touch 1 (bz_dup) from bz_o_dup (by decide +kernel)) ?_
  refine bz_ac (show bz_ok RX5 cX5_touch 2 (bz_getI 4 1) from bz_o_getI (ci := 4) (k := 1) (idx := 50) (C := RX5) (T := TX5) (N := 7) rfl bh_4 rfl rfl (bz_tb 145 (by decide +kernel) (by decide +kernel)) (Or.inl rfl) (by decide +kernel)) ?_
  refine bz_ac (show bz_ok RX5 cX5_touch 5 (bz_push (.int 1) 1) from bz_o_iconst (n := 1) (v := 1) (by decide +kernel) (by decide)) ?_
  refine bz_ac (show bz_ok RX5 cX5_touch 6 (bz_iadd) from bz_o_iadd (by decide +kernel)) ?_
  refine bz_ac (show bz_ok RX5 cX5_touch 7 (bz_putI 4 1) from bz_o_putI (ci := 4) (k := 1) (idx := 50) (C := RX5) (T := TX5) (N := 7) rfl bh_4 rfl rfl (bz_tb 145 (by decide +kernel) (by decide +kernel)) tyX5 tyX5_ok nmX5 rfl rfl rfl (by decide +kernel)) ?_
  refine bz_ac (show bz_ok RX5 cX5_touch 10 (bz_aload 0 1) from bz_o_aload_n (k := 0) (i := 0) (by decide +kernel) rfl) ?_
  refine bz_ac (show bz_ok RX5 cX5_touch 11 (bz_getI 4 1) from bz_o_getI (ci := 4) (k := 1) (idx := 50) (C := RX5) (T := TX5) (N := 7) rfl bh_4 rfl rfl (bz_tb 145 (by decide +kernel) (by decide +kernel)) (Or.inl rfl) (by decide +kernel)) ?_
  refine bz_ac (show bz_ok RX5 cX5_touch 14 (bz_push (.int 1) 1) from bz_o_iconst (n := 1) (v := 1) (by decide +kernel) (by decide)) ?_
  refine bz_ac (show bz_ok RX5 cX5_touch 15 (bz_ic_ne 36) from bz_o_ic_ne (off := 21) (t := 36) (by decide +kernel) (by decide)) ?_
  refine bz_ac (show bz_ok RX5 cX5_touch 18 (bz_aload 0 1) from bz_o_aload_n (k := 0) (i := 0) (by decide +kernel) rfl) ?_
  refine bz_ac (show bz_ok RX5 cX5_touch 19 (bz_iload 1 1) from bz_o_iload_n (k := 1) (i := 1) (by decide +kernel) rfl) ?_
  refine bz_ac (show bz_ok RX5 cX5_touch 20 (bz_putI 4 4) from bz_o_putI (ci := 4) (k := 4) (idx := 53) (C := RX5) (T := TX5) (N := 7) rfl bh_4 rfl rfl (bz_tb 150 (by decide +kernel) (by decide +kernel)) tyX5 tyX5_ok nmX5 rfl rfl rfl (by decide +kernel)) ?_
  refine bz_ac (show bz_ok RX5 cX5_touch 23 (bz_aload 0 1) from bz_o_aload_n (k := 0) (i := 0) (by decide +kernel) rfl) ?_
  refine bz_ac (show bz_ok RX5 cX5_touch 24 (bz_iload 2 1) from bz_o_iload_n (k := 2) (i := 2) (by decide +kernel) rfl) ?_
  refine bz_ac (show bz_ok RX5 cX5_touch 25 (bz_putI 4 5) from bz_o_putI (ci := 4) (k := 5) (idx := 56) (C := RX5) (T := TX5) (N := 7) rfl bh_4 rfl rfl (bz_tb 152 (by decide +kernel) (by decide +kernel)) tyX5 tyX5_ok nmX5 rfl rfl rfl (by decide +kernel)) ?_
  refine bz_ac (show bz_ok RX5 cX5_touch 28 (bz_aload 0 1) from bz_o_aload_n (k := 0) (i := 0) (by decide +kernel) rfl) ?_
  refine bz_ac (show bz_ok RX5 cX5_touch 29 (bz_aload 0 1) from bz_o_aload_n (k := 0) (i := 0) (by decide +kernel) rfl) ?_
  refine bz_ac (show bz_ok RX5 cX5_touch 30 (bz_getI 4 2) from bz_o_getI (ci := 4) (k := 2) (idx := 29) (C := RX5) (T := TX5) (N := 7) rfl bh_4 rfl rfl (bz_tb 147 (by decide +kernel) (by decide +kernel)) (Or.inl rfl) (by decide +kernel)) ?_
  refine bz_ac (show bz_ok RX5 cX5_touch 33 (bz_putI 4 6) from bz_o_putI (ci := 4) (k := 6) (idx := 59) (C := RX5) (T := TX5) (N := 7) rfl bh_4 rfl rfl (bz_tb 154 (by decide +kernel) (by decide +kernel)) tyX5 tyX5_ok nmX5 rfl rfl rfl (by decide +kernel)) ?_
  refine bz_ac (show bz_rok cX5_touch none 36 0 from Or.inl ⟨rfl, rfl, by decide +kernel⟩) ?_
  exact bz_an
set_option maxRecDepth 100000 in
theorem bo_X10_isPocket (l : Launch) : ∀ q ∈ bt_X10_isPocket, bz_rw bz_P l bm_X10_isPocket q := by
  refine bz_ac (show bz_ok RX10 cX10_isPocket 0 (bz_iload 0 1) from bz_o_iload_n (k := 0) (i := 0) (by decide +kernel) rfl) ?_
  refine bz_ac (show bz_ok RX10 cX10_isPocket 1 (bz_push (.int 9) 2) from bz_o_bipush (n := 9) (v := 9) (by decide +kernel) (by decide)) ?_
  refine bz_ac (show bz_ok RX10 cX10_isPocket 3 (bz_idiv) from bz_o_idiv (by decide +kernel)) ?_
  refine bz_ac (show bz_ok RX10 cX10_isPocket 4 (bz_istore 1 1) from bz_o_istore_n (k := 1) (i := 1) (by decide +kernel) rfl) ?_
  refine bz_ac (show bz_ok RX10 cX10_isPocket 5 (bz_iload 1 1) from bz_o_iload_n (k := 1) (i := 1) (by decide +kernel) rfl) ?_
  refine bz_ac (show bz_ok RX10 cX10_isPocket 6 (bz_if_eq 14) from bz_o_if_eq (off := 8) (t := 14) (by decide +kernel) (by decide)) ?_
  refine bz_ac (show bz_ok RX10 cX10_isPocket 9 (bz_iload 1 1) from bz_o_iload_n (k := 1) (i := 1) (by decide +kernel) rfl) ?_
  refine bz_ac (show bz_ok RX10 cX10_isPocket 10 (bz_push (.int 4) 1) from bz_o_iconst (n := 4) (v := 4) (by decide +kernel) (by decide)) ?_
  refine bz_ac (show bz_ok RX10 cX10_isPocket 11 (bz_ic_ne 27) from bz_o_ic_ne (off := 16) (t := 27) (by decide +kernel) (by decide)) ?_
  refine bz_ac (show bz_ok RX10 cX10_isPocket 14 (bz_iload 0 1) from bz_o_iload_n (k := 0) (i := 0) (by decide +kernel) rfl) ?_
  refine bz_ac (show bz_ok RX10 cX10_isPocket 15 (bz_push (.int 9) 2) from bz_o_bipush (n := 9) (v := 9) (by decide +kernel) (by decide)) ?_
  refine bz_ac (show bz_ok RX10 cX10_isPocket 17 (bz_irem) from bz_o_irem (by decide +kernel)) ?_
  refine bz_ac (show bz_ok RX10 cX10_isPocket 18 (bz_push (.int 4) 1) from bz_o_iconst (n := 4) (v := 4) (by decide +kernel) (by decide)) ?_
  refine bz_ac (show bz_ok RX10 cX10_isPocket 19 (bz_irem) from bz_o_irem (by decide +kernel)) ?_
  refine bz_ac (show bz_ok RX10 cX10_isPocket 20 (bz_if_ne 27) from bz_o_if_ne (off := 7) (t := 27) (by decide +kernel) (by decide)) ?_
  refine bz_ac (show bz_ok RX10 cX10_isPocket 23 (bz_push (.int 1) 1) from bz_o_iconst (n := 1) (v := 1) (by decide +kernel) (by decide)) ?_
  refine bz_ac (show bz_ok RX10 cX10_isPocket 24 (bz_goto 28) from bz_o_goto (off := 4) (t := 28) (by decide +kernel) (by decide)) ?_
  refine bz_ac (show bz_ok RX10 cX10_isPocket 27 (bz_push (.int 0) 1) from bz_o_iconst (n := 0) (v := 0) (by decide +kernel) (by decide)) ?_
  refine bz_ac (show bz_rok cX10_isPocket (some .boolean) 28 3 from Or.inr (Or.inr (Or.inr ⟨rfl, rfl, by decide +kernel⟩))) ?_
  exact bz_an
set_option maxRecDepth 100000 in
theorem bo_X5_run (l : Launch) : ∀ q ∈ bt_X5_run, bz_rw bz_P l bm_X5_run q := by
  refine bz_ac (show bz_ok RX5 cX5_run 0 (bz_aload 0 1) from bz_o_aload_n (k := 0) (i := 0) (by decide +kernel) rfl) ?_
  refine bz_ac (show bz_ok RX5 cX5_run 1 (bz_iload 2 1) from bz_o_iload_n (k := 2) (i := 2) (by decide +kernel) rfl) ?_
  refine bz_ac (show bz_cok bz_P l RX5 cX5_run 1 24 2 mX5_begin 2 5 from bz_cV' (own := RX5) (idx := 9) (ci := 4) (N := 7) (T := TX5) (n := 1) bp_X5_begin bq_X5_begin (by decide +kernel) (bz_tb 425 (by decide +kernel) (by decide +kernel)) (bz_tb 427 (by decide +kernel) (by decide +kernel)) (bz_tb 4 (by decide +kernel) (by decide +kernel)) rfl rfl (by decide) (by decide)) ?_
  refine bz_ac (show bz_ok RX5 cX5_run 5 (bz_iload 2 1) from bz_o_iload_n (k := 2) (i := 2) (by decide +kernel) rfl) ?_
  refine bz_ac (show bz_ok RX5 cX5_run 6 (bz_istore 5 2) from bz_o_istore (i := 5) (by decide +kernel)) ?_
  refine bz_ac (show bz_ok RX5 cX5_run 8 (bz_iload 3 1) from bz_o_iload_n (k := 3) (i := 3) (by decide +kernel) rfl) ?_
  refine bz_ac (show bz_ok RX5 cX5_run 9 (bz_istore 6 2) from bz_o_istore (i := 6) (by decide +kernel)) ?_
  refine bz_ac (show bz_ok RX5 cX5_run 11 (bz_push (.int 1) 1) from bz_o_iconst (n := 1) (v := 1) (by decide +kernel) (by decide)) ?_
  refine bz_ac (show bz_ok RX5 cX5_run 12 (bz_istore 7 2) from bz_o_istore (i := 7) (by decide +kernel)) ?_
  refine bz_ac (show bz_ok RX5 cX5_run 14 (bz_iload 7 2) from bz_o_iload (i := 7) (by decide +kernel)) ?_
  refine bz_ac (show bz_ok RX5 cX5_run 16 (bz_iload 4 2) from bz_o_iload (i := 4) (by decide +kernel)) ?_
  refine bz_ac (show bz_ok RX5 cX5_run 18 (bz_ic_gt 146) from bz_o_ic_gt (off := 128) (t := 146) (by decide +kernel) (by decide)) ?_
  refine bz_ac (show bz_ok RX5 cX5_run 21 (bz_aload 0 1) from bz_o_aload_n (k := 0) (i := 0) (by decide +kernel) rfl) ?_
  refine bz_ac (show bz_ok RX5 cX5_run 22 (bz_getI 4 3) from bz_o_getI (ci := 4) (k := 3) (idx := 15) (C := RX5) (T := TX5) (N := 7) rfl bh_4 rfl rfl (bz_tb 149 (by decide +kernel) (by decide +kernel)) (Or.inl rfl) (by decide +kernel)) ?_
  refine bz_ac (show bz_ok RX5 cX5_run 25 (bz_push (.int (-1)) 1) from bz_o_iconst (n := (-1)) (v := (-1)) (by decide +kernel) (by decide)) ?_
  refine bz_ac (show bz_ok RX5 cX5_run 26 (bz_ic_ne 146) from bz_o_ic_ne (off := 120) (t := 146) (by decide +kernel) (by decide)) ?_
  refine bz_ac (show bz_ok RX5 cX5_run 29 (bz_aload 1 1) from bz_o_aload_n (k := 1) (i := 1) (by decide +kernel) rfl) ?_
  refine bz_ac (show bz_ok RX5 cX5_run 30 (bz_getR 5 0) from bz_o_getR (ci := 5) (k := 0) (idx := 19) (C := RX6) (T := TX6) (N := 4) rfl bh_5 rfl rfl (bz_tb 76 (by decide +kernel) (by decide +kernel)) rfl (by decide +kernel)) ?_
  refine bz_ac (show bz_ok RX5 cX5_run 33 (bz_iload 5 2) from bz_o_iload (i := 5) (by decide +kernel)) ?_
  refine bz_ac (show bz_ok RX5 cX5_run 35 (bz_iald) from bz_o_iald (by decide +kernel)) ?_
  refine bz_ac (show bz_ok RX5 cX5_run 36 (bz_istore 8 2) from bz_o_istore (i := 8) (by decide +kernel)) ?_
  refine bz_ac (show bz_ok RX5 cX5_run 38 (bz_iload 8 2) from bz_o_iload (i := 8) (by decide +kernel)) ?_
  refine bz_ac (show bz_ok RX5 cX5_run 40 (bz_iload 6 2) from bz_o_iload (i := 6) (by decide +kernel)) ?_
  refine bz_ac (show bz_cok bz_P l RX5 cX5_run 1 24 42 mX10_turned 2 0 from bz_cN' (own := RX5) (host := "BaizeCorps") (idx := 25) (n := 2) bp_X10_turned bq_X10_turned (by decide +kernel) (bz_nb 429 (by decide +kernel) rfl) (bz_tb 430 (by decide +kernel) (by decide +kernel)) rfl (by decide) (by decide)) ?_
  refine bz_ac (show bz_ok RX5 cX5_run 45 (bz_istore 9 2) from bz_o_istore (i := 9) (by decide +kernel)) ?_
  refine bz_ac (show bz_ok RX5 cX5_run 47 (bz_iload 9 2) from bz_o_iload (i := 9) (by decide +kernel)) ?_
  refine bz_ac (show bz_ok RX5 cX5_run 49 (bz_iload 6 2) from bz_o_iload (i := 6) (by decide +kernel)) ?_
  refine bz_ac (show bz_ok RX5 cX5_run 51 (bz_ic_eq 64) from bz_o_ic_eq (off := 13) (t := 64) (by decide +kernel) (by decide)) ?_
  refine bz_ac (show bz_ok RX5 cX5_run 54 (bz_aload 0 1) from bz_o_aload_n (k := 0) (i := 0) (by decide +kernel) rfl) ?_
  refine bz_ac (show bz_ok RX5 cX5_run 55 (bz_dup) from bz_o_dup (by decide +kernel)) ?_
  refine bz_ac (show bz_ok RX5 cX5_run 56 (bz_getI 4 2) from bz_o_getI (ci := 4) (k := 2) (idx := 29) (C := RX5) (T := TX5) (N := 7) rfl bh_4 rfl rfl (bz_tb 147 (by decide +kernel) (by decide +kernel)) (Or.inl rfl) (by decide +kernel)) ?_
  refine bz_ac (show bz_ok RX5 cX5_run 59 (bz_push (.int 1) 1) from bz_o_iconst (n := 1) (v := 1) (by decide +kernel) (by decide)) ?_
  refine bz_ac (show bz_ok RX5 cX5_run 60 (bz_iadd) from bz_o_iadd (by decide +kernel)) ?_
  refine bz_ac (show bz_ok RX5 cX5_run 61 (bz_putI 4 2) from bz_o_putI (ci := 4) (k := 2) (idx := 29) (C := RX5) (T := TX5) (N := 7) rfl bh_4 rfl rfl (bz_tb 147 (by decide +kernel) (by decide +kernel)) tyX5 tyX5_ok nmX5 rfl rfl rfl (by decide +kernel)) ?_
  refine bz_ac (show bz_ok RX5 cX5_run 64 (bz_iload 9 2) from bz_o_iload (i := 9) (by decide +kernel)) ?_
  refine bz_ac (show bz_ok RX5 cX5_run 66 (bz_istore 6 2) from bz_o_istore (i := 6) (by decide +kernel)) ?_
  refine bz_ac (show bz_ok RX5 cX5_run 68 (bz_iload 8 2) from bz_o_iload (i := 8) (by decide +kernel)) ?_
  refine bz_ac (show bz_ok RX5 cX5_run 70 (bz_iload 6 2) from bz_o_iload (i := 6) (by decide +kernel)) ?_
  refine bz_ac (show bz_cok bz_P l RX5 cX5_run 1 24 72 mX10_next 2 0 from bz_cN' (own := RX5) (host := "BaizeCorps") (idx := 32) (n := 2) bp_X10_next bq_X10_next (by decide +kernel) (bz_nb 436 (by decide +kernel) rfl) (bz_tb 437 (by decide +kernel) (by decide +kernel)) rfl (by decide) (by decide)) ?_
  refine bz_ac (show bz_ok RX5 cX5_run 75 (bz_istore 10 2) from bz_o_istore (i := 10) (by decide +kernel)) ?_
  refine bz_ac (show bz_ok RX5 cX5_run 77 (bz_aload 1 1) from bz_o_aload_n (k := 1) (i := 1) (by decide +kernel) rfl) ?_
  refine bz_ac (show bz_ok RX5 cX5_run 78 (bz_iload 10 2) from bz_o_iload (i := 10) (by decide +kernel)) ?_
  refine bz_ac (show bz_cok bz_P l RX5 cX5_run 1 24 80 mX6_lyingOn 2 6 from bz_cV' (own := RX5) (idx := 35) (ci := 5) (N := 4) (T := TX6) (n := 1) bp_X6_lyingOn bq_X6_lyingOn (by decide +kernel) (bz_tb 439 (by decide +kernel) (by decide +kernel)) (bz_tb 329 (by decide +kernel) (by decide +kernel)) (bz_tb 330 (by decide +kernel) (by decide +kernel)) rfl rfl (by decide) (by decide)) ?_
  refine bz_ac (show bz_ok RX5 cX5_run 83 (bz_istore 11 2) from bz_o_istore (i := 11) (by decide +kernel)) ?_
  refine bz_ac (show bz_ok RX5 cX5_run 85 (bz_iload 11 2) from bz_o_iload (i := 11) (by decide +kernel)) ?_
  refine bz_ac (show bz_ok RX5 cX5_run 87 (bz_push (.int (-1)) 1) from bz_o_iconst (n := (-1)) (v := (-1)) (by decide +kernel) (by decide)) ?_
  refine bz_ac (show bz_ok RX5 cX5_run 88 (bz_ic_eq 106) from bz_o_ic_eq (off := 18) (t := 106) (by decide +kernel) (by decide)) ?_
  refine bz_ac (show bz_ok RX5 cX5_run 91 (bz_aload 0 1) from bz_o_aload_n (k := 0) (i := 0) (by decide +kernel) rfl) ?_
  refine bz_ac (show bz_ok RX5 cX5_run 92 (bz_iload 11 2) from bz_o_iload (i := 11) (by decide +kernel)) ?_
  refine bz_ac (show bz_ok RX5 cX5_run 94 (bz_iload 7 2) from bz_o_iload (i := 7) (by decide +kernel)) ?_
  refine bz_ac (show bz_cok bz_P l RX5 cX5_run 1 24 96 mX5_touch 3 5 from bz_cV' (own := RX5) (idx := 39) (ci := 4) (N := 7) (T := TX5) (n := 2) bp_X5_touch bq_X5_touch (by decide +kernel) (bz_tb 440 (by decide +kernel) (by decide +kernel)) (bz_tb 442 (by decide +kernel) (by decide +kernel)) (bz_tb 5 (by decide +kernel) (by decide +kernel)) rfl rfl (by decide) (by decide)) ?_
  refine bz_ac (show bz_ok RX5 cX5_run 99 (bz_iload 11 2) from bz_o_iload (i := 11) (by decide +kernel)) ?_
  refine bz_ac (show bz_ok RX5 cX5_run 101 (bz_istore 5 2) from bz_o_istore (i := 5) (by decide +kernel)) ?_
  refine bz_ac (show bz_ok RX5 cX5_run 103 (bz_goto 140) from bz_o_goto (off := 37) (t := 140) (by decide +kernel) (by decide)) ?_
  refine bz_ac (show bz_ok RX5 cX5_run 106 (bz_iload 10 2) from bz_o_iload (i := 10) (by decide +kernel)) ?_
  refine bz_ac (show bz_cok bz_P l RX5 cX5_run 1 24 108 mX10_isPocket 1 0 from bz_cN' (own := RX5) (host := "BaizeCorps") (idx := 43) (n := 1) bp_X10_isPocket bq_X10_isPocket (by decide +kernel) (bz_nb 444 (by decide +kernel) rfl) (bz_tb 326 (by decide +kernel) (by decide +kernel)) rfl (by decide) (by decide)) ?_
  refine bz_ac (show bz_ok RX5 cX5_run 111 (bz_if_eq 131) from bz_o_if_eq (off := 20) (t := 131) (by decide +kernel) (by decide)) ?_
  refine bz_ac (show bz_ok RX5 cX5_run 114 (bz_aload 1 1) from bz_o_aload_n (k := 1) (i := 1) (by decide +kernel) rfl) ?_
  refine bz_ac (show bz_ok RX5 cX5_run 115 (bz_getR 5 0) from bz_o_getR (ci := 5) (k := 0) (idx := 19) (C := RX6) (T := TX6) (N := 4) rfl bh_5 rfl rfl (bz_tb 76 (by decide +kernel) (by decide +kernel)) rfl (by decide +kernel)) ?_
  refine bz_ac (show bz_ok RX5 cX5_run 118 (bz_iload 5 2) from bz_o_iload (i := 5) (by decide +kernel)) ?_
  refine bz_ac (show bz_ok RX5 cX5_run 120 (bz_push (.int (-1)) 1) from bz_o_iconst (n := (-1)) (v := (-1)) (by decide +kernel) (by decide)) ?_
  refine bz_ac (show bz_ok RX5 cX5_run 121 (bz_iast) from bz_o_iast (by decide +kernel)) ?_
  refine bz_ac (show bz_ok RX5 cX5_run 122 (bz_aload 0 1) from bz_o_aload_n (k := 0) (i := 0) (by decide +kernel) rfl) ?_
  refine bz_ac (show bz_ok RX5 cX5_run 123 (bz_iload 5 2) from bz_o_iload (i := 5) (by decide +kernel)) ?_
  refine bz_ac (show bz_ok RX5 cX5_run 125 (bz_putI 4 3) from bz_o_putI (ci := 4) (k := 3) (idx := 15) (C := RX5) (T := TX5) (N := 7) rfl bh_4 rfl rfl (bz_tb 149 (by decide +kernel) (by decide +kernel)) tyX5 tyX5_ok nmX5 rfl rfl rfl (by decide +kernel)) ?_
  refine bz_ac (show bz_ok RX5 cX5_run 128 (bz_goto 140) from bz_o_goto (off := 12) (t := 140) (by decide +kernel) (by decide)) ?_
  refine bz_ac (show bz_ok RX5 cX5_run 131 (bz_aload 1 1) from bz_o_aload_n (k := 1) (i := 1) (by decide +kernel) rfl) ?_
  refine bz_ac (show bz_ok RX5 cX5_run 132 (bz_getR 5 0) from bz_o_getR (ci := 5) (k := 0) (idx := 19) (C := RX6) (T := TX6) (N := 4) rfl bh_5 rfl rfl (bz_tb 76 (by decide +kernel) (by decide +kernel)) rfl (by decide +kernel)) ?_
  refine bz_ac (show bz_ok RX5 cX5_run 135 (bz_iload 5 2) from bz_o_iload (i := 5) (by decide +kernel)) ?_
  refine bz_ac (show bz_ok RX5 cX5_run 137 (bz_iload 10 2) from bz_o_iload (i := 10) (by decide +kernel)) ?_
  refine bz_ac (show bz_ok RX5 cX5_run 139 (bz_iast) from bz_o_iast (by decide +kernel)) ?_
  refine bz_ac (show bz_ok RX5 cX5_run 140 (bz_iinc 7 1) from bz_o_iinc (i := 7) (n := 1) (v := 1) (by decide +kernel) (by decide)) ?_
  refine bz_ac (show bz_ok RX5 cX5_run 143 (bz_goto 14) from bz_o_goto (off := (-129)) (t := 14) (by decide +kernel) (by decide)) ?_
  refine bz_ac (show bz_rok cX5_run none 146 0 from Or.inl ⟨rfl, rfl, by decide +kernel⟩) ?_
  exact bz_an
set_option maxRecDepth 100000 in
theorem bo_X5_pointsMore (l : Launch) : ∀ q ∈ bt_X5_pointsMore, bz_rw bz_P l bm_X5_pointsMore q := by
  refine bz_ac (show bz_ok RX5 cX5_pointsMore 0 (bz_aload 0 1) from bz_o_aload_n (k := 0) (i := 0) (by decide +kernel) rfl) ?_
  refine bz_ac (show bz_ok RX5 cX5_pointsMore 1 (bz_getI 4 1) from bz_o_getI (ci := 4) (k := 1) (idx := 50) (C := RX5) (T := TX5) (N := 7) rfl bh_4 rfl rfl (bz_tb 145 (by decide +kernel) (by decide +kernel)) (Or.inl rfl) (by decide +kernel)) ?_
  refine bz_ac (show bz_ok RX5 cX5_pointsMore 4 (bz_push (.int 2) 1) from bz_o_iconst (n := 2) (v := 2) (by decide +kernel) (by decide)) ?_
  refine bz_ac (show bz_ok RX5 cX5_pointsMore 5 (bz_ic_lt 12) from bz_o_ic_lt (off := 7) (t := 12) (by decide +kernel) (by decide)) ?_
  refine bz_ac (show bz_ok RX5 cX5_pointsMore 8 (bz_push (.int 2) 1) from bz_o_iconst (n := 2) (v := 2) (by decide +kernel) (by decide)) ?_
  refine bz_ac (show bz_ok RX5 cX5_pointsMore 9 (bz_goto 13) from bz_o_goto (off := 4) (t := 13) (by decide +kernel) (by decide)) ?_
  refine bz_ac (show bz_ok RX5 cX5_pointsMore 12 (bz_push (.int 0) 1) from bz_o_iconst (n := 0) (v := 0) (by decide +kernel) (by decide)) ?_
  refine bz_ac (show bz_ok RX5 cX5_pointsMore 13 (bz_istore 1 1) from bz_o_istore_n (k := 1) (i := 1) (by decide +kernel) rfl) ?_
  refine bz_ac (show bz_ok RX5 cX5_pointsMore 14 (bz_aload 0 1) from bz_o_aload_n (k := 0) (i := 0) (by decide +kernel) rfl) ?_
  refine bz_ac (show bz_ok RX5 cX5_pointsMore 15 (bz_getI 4 3) from bz_o_getI (ci := 4) (k := 3) (idx := 15) (C := RX5) (T := TX5) (N := 7) rfl bh_4 rfl rfl (bz_tb 149 (by decide +kernel) (by decide +kernel)) (Or.inl rfl) (by decide +kernel)) ?_
  refine bz_ac (show bz_ok RX5 cX5_pointsMore 18 (bz_push (.int (-1)) 1) from bz_o_iconst (n := (-1)) (v := (-1)) (by decide +kernel) (by decide)) ?_
  refine bz_ac (show bz_ok RX5 cX5_pointsMore 19 (bz_ic_eq 37) from bz_o_ic_eq (off := 18) (t := 37) (by decide +kernel) (by decide)) ?_
  refine bz_ac (show bz_ok RX5 cX5_pointsMore 22 (bz_aload 0 1) from bz_o_aload_n (k := 0) (i := 0) (by decide +kernel) rfl) ?_
  refine bz_ac (show bz_ok RX5 cX5_pointsMore 23 (bz_getI 4 3) from bz_o_getI (ci := 4) (k := 3) (idx := 15) (C := RX5) (T := TX5) (N := 7) rfl bh_4 rfl rfl (bz_tb 149 (by decide +kernel) (by decide +kernel)) (Or.inl rfl) (by decide +kernel)) ?_
  refine bz_ac (show bz_ok RX5 cX5_pointsMore 26 (bz_aload 0 1) from bz_o_aload_n (k := 0) (i := 0) (by decide +kernel) rfl) ?_
  refine bz_ac (show bz_ok RX5 cX5_pointsMore 27 (bz_getI 4 0) from bz_o_getI (ci := 4) (k := 0) (idx := 47) (C := RX5) (T := TX5) (N := 7) rfl bh_4 rfl rfl (bz_tb 144 (by decide +kernel) (by decide +kernel)) (Or.inl rfl) (by decide +kernel)) ?_
  refine bz_ac (show bz_ok RX5 cX5_pointsMore 30 (bz_ic_eq 37) from bz_o_ic_eq (off := 7) (t := 37) (by decide +kernel) (by decide)) ?_
  refine bz_ac (show bz_ok RX5 cX5_pointsMore 33 (bz_push (.int 3) 1) from bz_o_iconst (n := 3) (v := 3) (by decide +kernel) (by decide)) ?_
  refine bz_ac (show bz_ok RX5 cX5_pointsMore 34 (bz_goto 38) from bz_o_goto (off := 4) (t := 38) (by decide +kernel) (by decide)) ?_
  refine bz_ac (show bz_ok RX5 cX5_pointsMore 37 (bz_push (.int 0) 1) from bz_o_iconst (n := 0) (v := 0) (by decide +kernel) (by decide)) ?_
  refine bz_ac (show bz_ok RX5 cX5_pointsMore 38 (bz_istore 2 1) from bz_o_istore_n (k := 2) (i := 2) (by decide +kernel) rfl) ?_
  refine bz_ac (show bz_ok RX5 cX5_pointsMore 39 (bz_iload 1 1) from bz_o_iload_n (k := 1) (i := 1) (by decide +kernel) rfl) ?_
  refine bz_ac (show bz_ok RX5 cX5_pointsMore 40 (bz_iload 2 1) from bz_o_iload_n (k := 2) (i := 2) (by decide +kernel) rfl) ?_
  refine bz_ac (show bz_ok RX5 cX5_pointsMore 41 (bz_iadd) from bz_o_iadd (by decide +kernel)) ?_
  refine bz_ac (show bz_rok cX5_pointsMore (some .int) 42 1 from Or.inr (Or.inl ⟨rfl, rfl, by decide +kernel⟩)) ?_
  exact bz_an
set_option maxRecDepth 100000 in
theorem bo_X5_foulsMore (l : Launch) : ∀ q ∈ bt_X5_foulsMore, bz_rw bz_P l bm_X5_foulsMore q := by
  refine bz_ac (show bz_ok RX5 cX5_foulsMore 0 (bz_aload 0 1) from bz_o_aload_n (k := 0) (i := 0) (by decide +kernel) rfl) ?_
  refine bz_ac (show bz_ok RX5 cX5_foulsMore 1 (bz_getI 4 3) from bz_o_getI (ci := 4) (k := 3) (idx := 15) (C := RX5) (T := TX5) (N := 7) rfl bh_4 rfl rfl (bz_tb 149 (by decide +kernel) (by decide +kernel)) (Or.inl rfl) (by decide +kernel)) ?_
  refine bz_ac (show bz_ok RX5 cX5_foulsMore 4 (bz_aload 0 1) from bz_o_aload_n (k := 0) (i := 0) (by decide +kernel) rfl) ?_
  refine bz_ac (show bz_ok RX5 cX5_foulsMore 5 (bz_getI 4 0) from bz_o_getI (ci := 4) (k := 0) (idx := 47) (C := RX5) (T := TX5) (N := 7) rfl bh_4 rfl rfl (bz_tb 144 (by decide +kernel) (by decide +kernel)) (Or.inl rfl) (by decide +kernel)) ?_
  refine bz_ac (show bz_ok RX5 cX5_foulsMore 8 (bz_ic_ne 15) from bz_o_ic_ne (off := 7) (t := 15) (by decide +kernel) (by decide)) ?_
  refine bz_ac (show bz_ok RX5 cX5_foulsMore 11 (bz_push (.int 1) 1) from bz_o_iconst (n := 1) (v := 1) (by decide +kernel) (by decide)) ?_
  refine bz_ac (show bz_ok RX5 cX5_foulsMore 12 (bz_goto 16) from bz_o_goto (off := 4) (t := 16) (by decide +kernel) (by decide)) ?_
  refine bz_ac (show bz_ok RX5 cX5_foulsMore 15 (bz_push (.int 0) 1) from bz_o_iconst (n := 0) (v := 0) (by decide +kernel) (by decide)) ?_
  refine bz_ac (show bz_ok RX5 cX5_foulsMore 16 (bz_istore 1 1) from bz_o_istore_n (k := 1) (i := 1) (by decide +kernel) rfl) ?_
  refine bz_ac (show bz_ok RX5 cX5_foulsMore 17 (bz_aload 0 1) from bz_o_aload_n (k := 0) (i := 0) (by decide +kernel) rfl) ?_
  refine bz_ac (show bz_ok RX5 cX5_foulsMore 18 (bz_getI 4 1) from bz_o_getI (ci := 4) (k := 1) (idx := 50) (C := RX5) (T := TX5) (N := 7) rfl bh_4 rfl rfl (bz_tb 145 (by decide +kernel) (by decide +kernel)) (Or.inl rfl) (by decide +kernel)) ?_
  refine bz_ac (show bz_ok RX5 cX5_foulsMore 21 (bz_if_le 35) from bz_o_if_le (off := 14) (t := 35) (by decide +kernel) (by decide)) ?_
  refine bz_ac (show bz_ok RX5 cX5_foulsMore 24 (bz_aload 0 1) from bz_o_aload_n (k := 0) (i := 0) (by decide +kernel) rfl) ?_
  refine bz_ac (show bz_ok RX5 cX5_foulsMore 25 (bz_getI 4 6) from bz_o_getI (ci := 4) (k := 6) (idx := 59) (C := RX5) (T := TX5) (N := 7) rfl bh_4 rfl rfl (bz_tb 154 (by decide +kernel) (by decide +kernel)) (Or.inl rfl) (by decide +kernel)) ?_
  refine bz_ac (show bz_ok RX5 cX5_foulsMore 28 (bz_if_ne 35) from bz_o_if_ne (off := 7) (t := 35) (by decide +kernel) (by decide)) ?_
  refine bz_ac (show bz_ok RX5 cX5_foulsMore 31 (bz_push (.int 1) 1) from bz_o_iconst (n := 1) (v := 1) (by decide +kernel) (by decide)) ?_
  refine bz_ac (show bz_ok RX5 cX5_foulsMore 32 (bz_goto 36) from bz_o_goto (off := 4) (t := 36) (by decide +kernel) (by decide)) ?_
  refine bz_ac (show bz_ok RX5 cX5_foulsMore 35 (bz_push (.int 0) 1) from bz_o_iconst (n := 0) (v := 0) (by decide +kernel) (by decide)) ?_
  refine bz_ac (show bz_ok RX5 cX5_foulsMore 36 (bz_istore 2 1) from bz_o_istore_n (k := 2) (i := 2) (by decide +kernel) rfl) ?_
  refine bz_ac (show bz_ok RX5 cX5_foulsMore 37 (bz_iload 1 1) from bz_o_iload_n (k := 1) (i := 1) (by decide +kernel) rfl) ?_
  refine bz_ac (show bz_ok RX5 cX5_foulsMore 38 (bz_iload 2 1) from bz_o_iload_n (k := 2) (i := 2) (by decide +kernel) rfl) ?_
  refine bz_ac (show bz_ok RX5 cX5_foulsMore 39 (bz_iadd) from bz_o_iadd (by decide +kernel)) ?_
  refine bz_ac (show bz_rok cX5_foulsMore (some .int) 40 1 from Or.inr (Or.inl ⟨rfl, rfl, by decide +kernel⟩)) ?_
  exact bz_an
set_option maxRecDepth 100000 in
theorem bo_X10_isBall (l : Launch) : ∀ q ∈ bt_X10_isBall, bz_rw bz_P l bm_X10_isBall q := by
  refine bz_ac (show bz_ok RX10 cX10_isBall 0 (bz_iload 0 1) from bz_o_iload_n (k := 0) (i := 0) (by decide +kernel) rfl) ?_
  refine bz_ac (show bz_ok RX10 cX10_isBall 1 (bz_if_lt 13) from bz_o_if_lt (off := 12) (t := 13) (by decide +kernel) (by decide)) ?_
  refine bz_ac (show bz_ok RX10 cX10_isBall 4 (bz_iload 0 1) from bz_o_iload_n (k := 0) (i := 0) (by decide +kernel) rfl) ?_
  refine bz_ac (show bz_ok RX10 cX10_isBall 5 (bz_push (.int 3) 1) from bz_o_iconst (n := 3) (v := 3) (by decide +kernel) (by decide)) ?_
  refine bz_ac (show bz_ok RX10 cX10_isBall 6 (bz_ic_ge 13) from bz_o_ic_ge (off := 7) (t := 13) (by decide +kernel) (by decide)) ?_
  refine bz_ac (show bz_ok RX10 cX10_isBall 9 (bz_push (.int 1) 1) from bz_o_iconst (n := 1) (v := 1) (by decide +kernel) (by decide)) ?_
  refine bz_ac (show bz_ok RX10 cX10_isBall 10 (bz_goto 14) from bz_o_goto (off := 4) (t := 14) (by decide +kernel) (by decide)) ?_
  refine bz_ac (show bz_ok RX10 cX10_isBall 13 (bz_push (.int 0) 1) from bz_o_iconst (n := 0) (v := 0) (by decide +kernel) (by decide)) ?_
  refine bz_ac (show bz_rok cX10_isBall (some .boolean) 14 3 from Or.inr (Or.inr (Or.inr ⟨rfl, rfl, by decide +kernel⟩))) ?_
  exact bz_an
set_option maxRecDepth 100000 in
theorem bo_X6_isDown (l : Launch) : ∀ q ∈ bt_X6_isDown, bz_rw bz_P l bm_X6_isDown q := by
  refine bz_ac (show bz_ok RX6 cX6_isDown 0 (bz_iload 1 1) from bz_o_iload_n (k := 1) (i := 1) (by decide +kernel) rfl) ?_
  refine bz_ac (show bz_cok bz_P l RX6 cX6_isDown 1 20 1 mX10_isBall 1 0 from bz_cN' (own := RX6) (host := "BaizeCorps") (idx := 28) (n := 1) bp_X10_isBall bq_X10_isBall (by decide +kernel) (bz_nb 340 (by decide +kernel) rfl) (bz_tb 314 (by decide +kernel) (by decide +kernel)) rfl (by decide) (by decide)) ?_
  refine bz_ac (show bz_ok RX6 cX6_isDown 4 (bz_if_eq 17) from bz_o_if_eq (off := 13) (t := 17) (by decide +kernel) (by decide)) ?_
  refine bz_ac (show bz_ok RX6 cX6_isDown 7 (bz_aload 0 1) from bz_o_aload_n (k := 0) (i := 0) (by decide +kernel) rfl) ?_
  refine bz_ac (show bz_ok RX6 cX6_isDown 8 (bz_getR 5 0) from bz_o_getR (ci := 5) (k := 0) (idx := 9) (C := RX6) (T := TX6) (N := 4) rfl bh_5 rfl rfl (bz_tb 75 (by decide +kernel) (by decide +kernel)) rfl (by decide +kernel)) ?_
  refine bz_ac (show bz_ok RX6 cX6_isDown 11 (bz_iload 1 1) from bz_o_iload_n (k := 1) (i := 1) (by decide +kernel) rfl) ?_
  refine bz_ac (show bz_ok RX6 cX6_isDown 12 (bz_iald) from bz_o_iald (by decide +kernel)) ?_
  refine bz_ac (show bz_ok RX6 cX6_isDown 13 (bz_push (.int (-1)) 1) from bz_o_iconst (n := (-1)) (v := (-1)) (by decide +kernel) (by decide)) ?_
  refine bz_ac (show bz_ok RX6 cX6_isDown 14 (bz_ic_ne 21) from bz_o_ic_ne (off := 7) (t := 21) (by decide +kernel) (by decide)) ?_
  refine bz_ac (show bz_ok RX6 cX6_isDown 17 (bz_push (.int 1) 1) from bz_o_iconst (n := 1) (v := 1) (by decide +kernel) (by decide)) ?_
  refine bz_ac (show bz_ok RX6 cX6_isDown 18 (bz_goto 22) from bz_o_goto (off := 4) (t := 22) (by decide +kernel) (by decide)) ?_
  refine bz_ac (show bz_ok RX6 cX6_isDown 21 (bz_push (.int 0) 1) from bz_o_iconst (n := 0) (v := 0) (by decide +kernel) (by decide)) ?_
  refine bz_ac (show bz_rok cX6_isDown (some .boolean) 22 3 from Or.inr (Or.inr (Or.inr ⟨rfl, rfl, by decide +kernel⟩))) ?_
  exact bz_an
set_option maxRecDepth 100000 in
theorem bo_X6_cellOrNone (l : Launch) : ∀ q ∈ bt_X6_cellOrNone, bz_rw bz_P l bm_X6_cellOrNone q := by
  refine bz_ac (show bz_ok RX6 cX6_cellOrNone 0 (bz_aload 0 1) from bz_o_aload_n (k := 0) (i := 0) (by decide +kernel) rfl) ?_
  refine bz_ac (show bz_ok RX6 cX6_cellOrNone 1 (bz_iload 1 1) from bz_o_iload_n (k := 1) (i := 1) (by decide +kernel) rfl) ?_
  refine bz_ac (show bz_cok bz_P l RX6 cX6_cellOrNone 2 41 2 mX6_isDown 2 6 from bz_cV' (own := RX6) (idx := 32) (ci := 5) (N := 4) (T := TX6) (n := 1) bp_X6_isDown bq_X6_isDown (by decide +kernel) (bz_tb 336 (by decide +kernel) (by decide +kernel)) (bz_tb 337 (by decide +kernel) (by decide +kernel)) (bz_tb 338 (by decide +kernel) (by decide +kernel)) rfl rfl (by decide) (by decide)) ?_
  refine bz_ac (show bz_ok RX6 cX6_cellOrNone 5 (bz_if_eq 13) from bz_o_if_eq (off := 8) (t := 13) (by decide +kernel) (by decide)) ?_
  refine bz_ac (show bz_ok RX6 cX6_cellOrNone 8 (bz_push (.int (-6)) 2) from bz_o_bipush (n := (-6)) (v := (-6)) (by decide +kernel) (by decide)) ?_
  refine bz_ac (show bz_ok RX6 cX6_cellOrNone 10 (bz_goto 19) from bz_o_goto (off := 9) (t := 19) (by decide +kernel) (by decide)) ?_
  refine bz_ac (show bz_ok RX6 cX6_cellOrNone 13 (bz_aload 0 1) from bz_o_aload_n (k := 0) (i := 0) (by decide +kernel) rfl) ?_
  refine bz_ac (show bz_ok RX6 cX6_cellOrNone 14 (bz_getR 5 0) from bz_o_getR (ci := 5) (k := 0) (idx := 9) (C := RX6) (T := TX6) (N := 4) rfl bh_5 rfl rfl (bz_tb 75 (by decide +kernel) (by decide +kernel)) rfl (by decide +kernel)) ?_
  refine bz_ac (show bz_ok RX6 cX6_cellOrNone 17 (bz_iload 1 1) from bz_o_iload_n (k := 1) (i := 1) (by decide +kernel) rfl) ?_
  refine bz_ac (show bz_ok RX6 cX6_cellOrNone 18 (bz_iald) from bz_o_iald (by decide +kernel)) ?_
  refine bz_ac (show bz_rok cX6_cellOrNone (some .int) 19 1 from Or.inr (Or.inl ⟨rfl, rfl, by decide +kernel⟩)) ?_
  exact bz_an
set_option maxRecDepth 100000 in
theorem bo_X6_howManyDown (l : Launch) : ∀ q ∈ bt_X6_howManyDown, bz_rw bz_P l bm_X6_howManyDown q := by
  refine bz_ac (show bz_ok RX6 cX6_howManyDown 0 (bz_push (.int 0) 1) from bz_o_iconst (n := 0) (v := 0) (by decide +kernel) (by decide)) ?_
  refine bz_ac (show bz_ok RX6 cX6_howManyDown 1 (bz_istore 1 1) from bz_o_istore_n (k := 1) (i := 1) (by decide +kernel) rfl) ?_
  refine bz_ac (show bz_ok RX6 cX6_howManyDown 2 (bz_push (.int 0) 1) from bz_o_iconst (n := 0) (v := 0) (by decide +kernel) (by decide)) ?_
  refine bz_ac (show bz_ok RX6 cX6_howManyDown 3 (bz_istore 2 1) from bz_o_istore_n (k := 2) (i := 2) (by decide +kernel) rfl) ?_
  refine bz_ac (show bz_ok RX6 cX6_howManyDown 4 (bz_iload 2 1) from bz_o_iload_n (k := 2) (i := 2) (by decide +kernel) rfl) ?_
  refine bz_ac (show bz_ok RX6 cX6_howManyDown 5 (bz_push (.int 3) 1) from bz_o_iconst (n := 3) (v := 3) (by decide +kernel) (by decide)) ?_
  refine bz_ac (show bz_ok RX6 cX6_howManyDown 6 (bz_ic_ge 26) from bz_o_ic_ge (off := 20) (t := 26) (by decide +kernel) (by decide)) ?_
  refine bz_ac (show bz_ok RX6 cX6_howManyDown 9 (bz_aload 0 1) from bz_o_aload_n (k := 0) (i := 0) (by decide +kernel) rfl) ?_
  refine bz_ac (show bz_ok RX6 cX6_howManyDown 10 (bz_iload 2 1) from bz_o_iload_n (k := 2) (i := 2) (by decide +kernel) rfl) ?_
  refine bz_ac (show bz_cok bz_P l RX6 cX6_howManyDown 2 41 11 mX6_isDown 2 6 from bz_cV' (own := RX6) (idx := 32) (ci := 5) (N := 4) (T := TX6) (n := 1) bp_X6_isDown bq_X6_isDown (by decide +kernel) (bz_tb 336 (by decide +kernel) (by decide +kernel)) (bz_tb 337 (by decide +kernel) (by decide +kernel)) (bz_tb 338 (by decide +kernel) (by decide +kernel)) rfl rfl (by decide) (by decide)) ?_
  refine bz_ac (show bz_ok RX6 cX6_howManyDown 14 (bz_if_eq 20) from bz_o_if_eq (off := 6) (t := 20) (by decide +kernel) (by decide)) ?_
  refine bz_ac (show bz_ok RX6 cX6_howManyDown 17 (bz_iinc 1 1) from bz_o_iinc (i := 1) (n := 1) (v := 1) (by decide +kernel) (by decide)) ?_
  refine bz_ac (show bz_ok RX6 cX6_howManyDown 20 (bz_iinc 2 1) from bz_o_iinc (i := 2) (n := 1) (v := 1) (by decide +kernel) (by decide)) ?_
  refine bz_ac (show bz_ok RX6 cX6_howManyDown 23 (bz_goto 4) from bz_o_goto (off := (-19)) (t := 4) (by decide +kernel) (by decide)) ?_
  refine bz_ac (show bz_ok RX6 cX6_howManyDown 26 (bz_iload 1 1) from bz_o_iload_n (k := 1) (i := 1) (by decide +kernel) rfl) ?_
  refine bz_ac (show bz_rok cX6_howManyDown (some .int) 27 1 from Or.inr (Or.inl ⟨rfl, rfl, by decide +kernel⟩)) ?_
  exact bz_an
set_option maxRecDepth 100000 in
theorem bo_X6_reasonAgainst (l : Launch) : ∀ q ∈ bt_X6_reasonAgainst, bz_rw bz_P l bm_X6_reasonAgainst q := by
  refine bz_ac (show bz_ok RX6 cX6_reasonAgainst 0 (bz_iload 1 1) from bz_o_iload_n (k := 1) (i := 1) (by decide +kernel) rfl) ?_
  refine bz_ac (show bz_ok RX6 cX6_reasonAgainst 1 (bz_switch (bz_mk 0 [32, 46, 99, 84]) 99) from bz_o_table (df := 98) (offs := #[31, 45, 98, 83]) (len := 31) (lo := 0) (hi := 3) (ts := [32, 46, 99, 84]) (d := 99) (by decide +kernel) (by decide) (by decide +kernel) (by decide)) ?_
  refine bz_ac (show bz_ok RX6 cX6_reasonAgainst 32 (bz_aload 0 1) from bz_o_aload_n (k := 0) (i := 0) (by decide +kernel) rfl) ?_
  refine bz_ac (show bz_ok RX6 cX6_reasonAgainst 33 (bz_iload 2 1) from bz_o_iload_n (k := 2) (i := 2) (by decide +kernel) rfl) ?_
  refine bz_ac (show bz_cok bz_P l RX6 cX6_reasonAgainst 2 41 34 mX6_isDown 2 6 from bz_cV' (own := RX6) (idx := 32) (ci := 5) (N := 4) (T := TX6) (n := 1) bp_X6_isDown bq_X6_isDown (by decide +kernel) (bz_tb 336 (by decide +kernel) (by decide +kernel)) (bz_tb 337 (by decide +kernel) (by decide +kernel)) (bz_tb 338 (by decide +kernel) (by decide +kernel)) rfl rfl (by decide) (by decide)) ?_
  refine bz_ac (show bz_ok RX6 cX6_reasonAgainst 37 (bz_if_eq 44) from bz_o_if_eq (off := 7) (t := 44) (by decide +kernel) (by decide)) ?_
  refine bz_ac (show bz_ok RX6 cX6_reasonAgainst 40 (bz_push (.int 1) 1) from bz_o_iconst (n := 1) (v := 1) (by decide +kernel) (by decide)) ?_
  refine bz_ac (show bz_ok RX6 cX6_reasonAgainst 41 (bz_goto 45) from bz_o_goto (off := 4) (t := 45) (by decide +kernel) (by decide)) ?_
  refine bz_ac (show bz_ok RX6 cX6_reasonAgainst 44 (bz_push (.int 0) 1) from bz_o_iconst (n := 0) (v := 0) (by decide +kernel) (by decide)) ?_
  refine bz_ac (show bz_rok cX6_reasonAgainst (some .int) 45 1 from Or.inr (Or.inl ⟨rfl, rfl, by decide +kernel⟩)) ?_
  refine bz_ac (show bz_ok RX6 cX6_reasonAgainst 46 (bz_iload 2 1) from bz_o_iload_n (k := 2) (i := 2) (by decide +kernel) rfl) ?_
  refine bz_ac (show bz_cok bz_P l RX6 cX6_reasonAgainst 2 41 47 mX10_isBall 1 0 from bz_cN' (own := RX6) (host := "BaizeCorps") (idx := 28) (n := 1) bp_X10_isBall bq_X10_isBall (by decide +kernel) (bz_nb 340 (by decide +kernel) rfl) (bz_tb 314 (by decide +kernel) (by decide +kernel)) rfl (by decide) (by decide)) ?_
  refine bz_ac (show bz_ok RX6 cX6_reasonAgainst 50 (bz_if_eq 63) from bz_o_if_eq (off := 13) (t := 63) (by decide +kernel) (by decide)) ?_
  refine bz_ac (show bz_ok RX6 cX6_reasonAgainst 53 (bz_aload 0 1) from bz_o_aload_n (k := 0) (i := 0) (by decide +kernel) rfl) ?_
  refine bz_ac (show bz_ok RX6 cX6_reasonAgainst 54 (bz_getR 5 0) from bz_o_getR (ci := 5) (k := 0) (idx := 9) (C := RX6) (T := TX6) (N := 4) rfl bh_5 rfl rfl (bz_tb 75 (by decide +kernel) (by decide +kernel)) rfl (by decide +kernel)) ?_
  refine bz_ac (show bz_ok RX6 cX6_reasonAgainst 57 (bz_iload 2 1) from bz_o_iload_n (k := 2) (i := 2) (by decide +kernel) rfl) ?_
  refine bz_ac (show bz_ok RX6 cX6_reasonAgainst 58 (bz_iald) from bz_o_iald (by decide +kernel)) ?_
  refine bz_ac (show bz_ok RX6 cX6_reasonAgainst 59 (bz_push (.int (-1)) 1) from bz_o_iconst (n := (-1)) (v := (-1)) (by decide +kernel) (by decide)) ?_
  refine bz_ac (show bz_ok RX6 cX6_reasonAgainst 60 (bz_ic_eq 65) from bz_o_ic_eq (off := 5) (t := 65) (by decide +kernel) (by decide)) ?_
  refine bz_ac (show bz_ok RX6 cX6_reasonAgainst 63 (bz_push (.int 1) 1) from bz_o_iconst (n := 1) (v := 1) (by decide +kernel) (by decide)) ?_
  refine bz_ac (show bz_rok cX6_reasonAgainst (some .int) 64 1 from Or.inr (Or.inl ⟨rfl, rfl, by decide +kernel⟩)) ?_
  refine bz_ac (show bz_ok RX6 cX6_reasonAgainst 65 (bz_aload 0 1) from bz_o_aload_n (k := 0) (i := 0) (by decide +kernel) rfl) ?_
  refine bz_ac (show bz_ok RX6 cX6_reasonAgainst 66 (bz_push (.ref 1000) 3) from bz_o_getsN (own := RX6) (i := 0) (idx := 15) (host := "BaizeCorps") (by decide) (by decide +kernel) (bz_nb 73 (by decide +kernel) rfl)) ?_
  refine bz_ac (show bz_ok RX6 cX6_reasonAgainst 69 (bz_iload 2 1) from bz_o_iload_n (k := 2) (i := 2) (by decide +kernel) rfl) ?_
  refine bz_ac (show bz_ok RX6 cX6_reasonAgainst 70 (bz_iald) from bz_o_iald (by decide +kernel)) ?_
  refine bz_ac (show bz_cok bz_P l RX6 cX6_reasonAgainst 2 41 71 mX6_lyingOn 2 6 from bz_cV' (own := RX6) (idx := 35) (ci := 5) (N := 4) (T := TX6) (n := 1) bp_X6_lyingOn bq_X6_lyingOn (by decide +kernel) (bz_tb 416 (by decide +kernel) (by decide +kernel)) (bz_tb 329 (by decide +kernel) (by decide +kernel)) (bz_tb 330 (by decide +kernel) (by decide +kernel)) rfl rfl (by decide) (by decide)) ?_
  refine bz_ac (show bz_ok RX6 cX6_reasonAgainst 74 (bz_push (.int (-1)) 1) from bz_o_iconst (n := (-1)) (v := (-1)) (by decide +kernel) (by decide)) ?_
  refine bz_ac (show bz_ok RX6 cX6_reasonAgainst 75 (bz_ic_ne 82) from bz_o_ic_ne (off := 7) (t := 82) (by decide +kernel) (by decide)) ?_
  refine bz_ac (show bz_ok RX6 cX6_reasonAgainst 78 (bz_push (.int 0) 1) from bz_o_iconst (n := 0) (v := 0) (by decide +kernel) (by decide)) ?_
  refine bz_ac (show bz_ok RX6 cX6_reasonAgainst 79 (bz_goto 83) from bz_o_goto (off := 4) (t := 83) (by decide +kernel) (by decide)) ?_
  refine bz_ac (show bz_ok RX6 cX6_reasonAgainst 82 (bz_push (.int 2) 1) from bz_o_iconst (n := 2) (v := 2) (by decide +kernel) (by decide)) ?_
  refine bz_ac (show bz_rok cX6_reasonAgainst (some .int) 83 1 from Or.inr (Or.inl ⟨rfl, rfl, by decide +kernel⟩)) ?_
  refine bz_ac (show bz_ok RX6 cX6_reasonAgainst 84 (bz_aload 0 1) from bz_o_aload_n (k := 0) (i := 0) (by decide +kernel) rfl) ?_
  refine bz_ac (show bz_ok RX6 cX6_reasonAgainst 85 (bz_getI 5 3) from bz_o_getI (ci := 5) (k := 3) (idx := 25) (C := RX6) (T := TX6) (N := 4) rfl bh_5 rfl rfl (bz_tb 85 (by decide +kernel) (by decide +kernel)) (Or.inl rfl) (by decide +kernel)) ?_
  refine bz_ac (show bz_ok RX6 cX6_reasonAgainst 88 (bz_push (.int 99) 2) from bz_o_bipush (n := 99) (v := 99) (by decide +kernel) (by decide)) ?_
  refine bz_ac (show bz_ok RX6 cX6_reasonAgainst 90 (bz_ic_lt 97) from bz_o_ic_lt (off := 7) (t := 97) (by decide +kernel) (by decide)) ?_
  refine bz_ac (show bz_ok RX6 cX6_reasonAgainst 93 (bz_push (.int 3) 1) from bz_o_iconst (n := 3) (v := 3) (by decide +kernel) (by decide)) ?_
  refine bz_ac (show bz_ok RX6 cX6_reasonAgainst 94 (bz_goto 98) from bz_o_goto (off := 4) (t := 98) (by decide +kernel) (by decide)) ?_
  refine bz_ac (show bz_ok RX6 cX6_reasonAgainst 97 (bz_push (.int 0) 1) from bz_o_iconst (n := 0) (v := 0) (by decide +kernel) (by decide)) ?_
  refine bz_ac (show bz_rok cX6_reasonAgainst (some .int) 98 1 from Or.inr (Or.inl ⟨rfl, rfl, by decide +kernel⟩)) ?_
  refine bz_ac (show bz_ok RX6 cX6_reasonAgainst 99 (bz_push (.int 0) 1) from bz_o_iconst (n := 0) (v := 0) (by decide +kernel) (by decide)) ?_
  refine bz_ac (show bz_rok cX6_reasonAgainst (some .int) 100 1 from Or.inr (Or.inl ⟨rfl, rfl, by decide +kernel⟩)) ?_
  exact bz_an
set_option maxRecDepth 100000 in
theorem bo_X6_driftOne (l : Launch) : ∀ q ∈ bt_X6_driftOne, bz_rw bz_P l bm_X6_driftOne q := by
  refine bz_ac (show bz_ok RX6 cX6_driftOne 0 (bz_aload 0 1) from bz_o_aload_n (k := 0) (i := 0) (by decide +kernel) rfl) ?_
  refine bz_ac (show bz_ok RX6 cX6_driftOne 1 (bz_getR 5 0) from bz_o_getR (ci := 5) (k := 0) (idx := 9) (C := RX6) (T := TX6) (N := 4) rfl bh_5 rfl rfl (bz_tb 75 (by decide +kernel) (by decide +kernel)) rfl (by decide +kernel)) ?_
  refine bz_ac (show bz_ok RX6 cX6_driftOne 4 (bz_iload 1 1) from bz_o_iload_n (k := 1) (i := 1) (by decide +kernel) rfl) ?_
  refine bz_ac (show bz_ok RX6 cX6_driftOne 5 (bz_iald) from bz_o_iald (by decide +kernel)) ?_
  refine bz_ac (show bz_ok RX6 cX6_driftOne 6 (bz_push (.int 1) 1) from bz_o_iconst (n := 1) (v := 1) (by decide +kernel) (by decide)) ?_
  refine bz_ac (show bz_ok RX6 cX6_driftOne 7 (bz_isub) from bz_o_isub (by decide +kernel)) ?_
  refine bz_ac (show bz_ok RX6 cX6_driftOne 8 (bz_istore 2 1) from bz_o_istore_n (k := 2) (i := 2) (by decide +kernel) rfl) ?_
  refine bz_ac (show bz_ok RX6 cX6_driftOne 9 (bz_iload 2 1) from bz_o_iload_n (k := 2) (i := 2) (by decide +kernel) rfl) ?_
  refine bz_ac (show bz_cok bz_P l RX6 cX6_driftOne 1 22 10 mX10_isPocket 1 0 from bz_cN' (own := RX6) (host := "BaizeCorps") (idx := 43) (n := 1) bp_X10_isPocket bq_X10_isPocket (by decide +kernel) (bz_nb 462 (by decide +kernel) rfl) (bz_tb 326 (by decide +kernel) (by decide +kernel)) rfl (by decide) (by decide)) ?_
  refine bz_ac (show bz_ok RX6 cX6_driftOne 13 (bz_if_ne 32) from bz_o_if_ne (off := 19) (t := 32) (by decide +kernel) (by decide)) ?_
  refine bz_ac (show bz_ok RX6 cX6_driftOne 16 (bz_aload 0 1) from bz_o_aload_n (k := 0) (i := 0) (by decide +kernel) rfl) ?_
  refine bz_ac (show bz_ok RX6 cX6_driftOne 17 (bz_iload 2 1) from bz_o_iload_n (k := 2) (i := 2) (by decide +kernel) rfl) ?_
  refine bz_ac (show bz_cok bz_P l RX6 cX6_driftOne 1 22 18 mX6_lyingOn 2 6 from bz_cV' (own := RX6) (idx := 35) (ci := 5) (N := 4) (T := TX6) (n := 1) bp_X6_lyingOn bq_X6_lyingOn (by decide +kernel) (bz_tb 416 (by decide +kernel) (by decide +kernel)) (bz_tb 329 (by decide +kernel) (by decide +kernel)) (bz_tb 330 (by decide +kernel) (by decide +kernel)) rfl rfl (by decide) (by decide)) ?_
  refine bz_ac (show bz_ok RX6 cX6_driftOne 21 (bz_push (.int (-1)) 1) from bz_o_iconst (n := (-1)) (v := (-1)) (by decide +kernel) (by decide)) ?_
  refine bz_ac (show bz_ok RX6 cX6_driftOne 22 (bz_ic_ne 32) from bz_o_ic_ne (off := 10) (t := 32) (by decide +kernel) (by decide)) ?_
  refine bz_ac (show bz_ok RX6 cX6_driftOne 25 (bz_aload 0 1) from bz_o_aload_n (k := 0) (i := 0) (by decide +kernel) rfl) ?_
  refine bz_ac (show bz_ok RX6 cX6_driftOne 26 (bz_getR 5 0) from bz_o_getR (ci := 5) (k := 0) (idx := 9) (C := RX6) (T := TX6) (N := 4) rfl bh_5 rfl rfl (bz_tb 75 (by decide +kernel) (by decide +kernel)) rfl (by decide +kernel)) ?_
  refine bz_ac (show bz_ok RX6 cX6_driftOne 29 (bz_iload 1 1) from bz_o_iload_n (k := 1) (i := 1) (by decide +kernel) rfl) ?_
  refine bz_ac (show bz_ok RX6 cX6_driftOne 30 (bz_iload 2 1) from bz_o_iload_n (k := 2) (i := 2) (by decide +kernel) rfl) ?_
  refine bz_ac (show bz_ok RX6 cX6_driftOne 31 (bz_iast) from bz_o_iast (by decide +kernel)) ?_
  refine bz_ac (show bz_rok cX6_driftOne none 32 0 from Or.inl ⟨rfl, rfl, by decide +kernel⟩) ?_
  exact bz_an
set_option maxRecDepth 100000 in
theorem bo_X6_drift (l : Launch) : ∀ q ∈ bt_X6_drift, bz_rw bz_P l bm_X6_drift q := by
  refine bz_ac (show bz_ok RX6 cX6_drift 0 (bz_push (.int 1) 1) from bz_o_iconst (n := 1) (v := 1) (by decide +kernel) (by decide)) ?_
  refine bz_ac (show bz_ok RX6 cX6_drift 1 (bz_istore 1 1) from bz_o_istore_n (k := 1) (i := 1) (by decide +kernel) rfl) ?_
  refine bz_ac (show bz_ok RX6 cX6_drift 2 (bz_iload 1 1) from bz_o_iload_n (k := 1) (i := 1) (by decide +kernel) rfl) ?_
  refine bz_ac (show bz_ok RX6 cX6_drift 3 (bz_push (.int 9) 2) from bz_o_bipush (n := 9) (v := 9) (by decide +kernel) (by decide)) ?_
  refine bz_ac (show bz_ok RX6 cX6_drift 5 (bz_ic_ge 53) from bz_o_ic_ge (off := 48) (t := 53) (by decide +kernel) (by decide)) ?_
  refine bz_ac (show bz_ok RX6 cX6_drift 8 (bz_push (.int 0) 1) from bz_o_iconst (n := 0) (v := 0) (by decide +kernel) (by decide)) ?_
  refine bz_ac (show bz_ok RX6 cX6_drift 9 (bz_istore 2 1) from bz_o_istore_n (k := 2) (i := 2) (by decide +kernel) rfl) ?_
  refine bz_ac (show bz_ok RX6 cX6_drift 10 (bz_iload 2 1) from bz_o_iload_n (k := 2) (i := 2) (by decide +kernel) rfl) ?_
  refine bz_ac (show bz_ok RX6 cX6_drift 11 (bz_push (.int 3) 1) from bz_o_iconst (n := 3) (v := 3) (by decide +kernel) (by decide)) ?_
  refine bz_ac (show bz_ok RX6 cX6_drift 12 (bz_ic_ge 47) from bz_o_ic_ge (off := 35) (t := 47) (by decide +kernel) (by decide)) ?_
  refine bz_ac (show bz_ok RX6 cX6_drift 15 (bz_aload 0 1) from bz_o_aload_n (k := 0) (i := 0) (by decide +kernel) rfl) ?_
  refine bz_ac (show bz_ok RX6 cX6_drift 16 (bz_iload 2 1) from bz_o_iload_n (k := 2) (i := 2) (by decide +kernel) rfl) ?_
  refine bz_ac (show bz_cok bz_P l RX6 cX6_drift 2 44 17 mX6_isDown 2 6 from bz_cV' (own := RX6) (idx := 32) (ci := 5) (N := 4) (T := TX6) (n := 1) bp_X6_isDown bq_X6_isDown (by decide +kernel) (bz_tb 336 (by decide +kernel) (by decide +kernel)) (bz_tb 337 (by decide +kernel) (by decide +kernel)) (bz_tb 338 (by decide +kernel) (by decide +kernel)) rfl rfl (by decide) (by decide)) ?_
  refine bz_ac (show bz_ok RX6 cX6_drift 20 (bz_if_ne 41) from bz_o_if_ne (off := 21) (t := 41) (by decide +kernel) (by decide)) ?_
  refine bz_ac (show bz_ok RX6 cX6_drift 23 (bz_aload 0 1) from bz_o_aload_n (k := 0) (i := 0) (by decide +kernel) rfl) ?_
  refine bz_ac (show bz_ok RX6 cX6_drift 24 (bz_getR 5 0) from bz_o_getR (ci := 5) (k := 0) (idx := 9) (C := RX6) (T := TX6) (N := 4) rfl bh_5 rfl rfl (bz_tb 75 (by decide +kernel) (by decide +kernel)) rfl (by decide +kernel)) ?_
  refine bz_ac (show bz_ok RX6 cX6_drift 27 (bz_iload 2 1) from bz_o_iload_n (k := 2) (i := 2) (by decide +kernel) rfl) ?_
  refine bz_ac (show bz_ok RX6 cX6_drift 28 (bz_iald) from bz_o_iald (by decide +kernel)) ?_
  refine bz_ac (show bz_ok RX6 cX6_drift 29 (bz_push (.int 9) 2) from bz_o_bipush (n := 9) (v := 9) (by decide +kernel) (by decide)) ?_
  refine bz_ac (show bz_ok RX6 cX6_drift 31 (bz_irem) from bz_o_irem (by decide +kernel)) ?_
  refine bz_ac (show bz_ok RX6 cX6_drift 32 (bz_iload 1 1) from bz_o_iload_n (k := 1) (i := 1) (by decide +kernel) rfl) ?_
  refine bz_ac (show bz_ok RX6 cX6_drift 33 (bz_ic_ne 41) from bz_o_ic_ne (off := 8) (t := 41) (by decide +kernel) (by decide)) ?_
  refine bz_ac (show bz_ok RX6 cX6_drift 36 (bz_aload 0 1) from bz_o_aload_n (k := 0) (i := 0) (by decide +kernel) rfl) ?_
  refine bz_ac (show bz_ok RX6 cX6_drift 37 (bz_iload 2 1) from bz_o_iload_n (k := 2) (i := 2) (by decide +kernel) rfl) ?_
  refine bz_ac (show bz_cok bz_P l RX6 cX6_drift 2 44 38 mX6_driftOne 2 6 from bz_cV' (own := RX6) (idx := 39) (ci := 5) (N := 4) (T := TX6) (n := 1) bp_X6_driftOne bq_X6_driftOne (by decide +kernel) (bz_tb 458 (by decide +kernel) (by decide +kernel)) (bz_tb 460 (by decide +kernel) (by decide +kernel)) (bz_tb 6 (by decide +kernel) (by decide +kernel)) rfl rfl (by decide) (by decide)) ?_
  refine bz_ac (show bz_ok RX6 cX6_drift 41 (bz_iinc 2 1) from bz_o_iinc (i := 2) (n := 1) (v := 1) (by decide +kernel) (by decide)) ?_
  refine bz_ac (show bz_ok RX6 cX6_drift 44 (bz_goto 10) from bz_o_goto (off := (-34)) (t := 10) (by decide +kernel) (by decide)) ?_
  refine bz_ac (show bz_ok RX6 cX6_drift 47 (bz_iinc 1 1) from bz_o_iinc (i := 1) (n := 1) (v := 1) (by decide +kernel) (by decide)) ?_
  refine bz_ac (show bz_ok RX6 cX6_drift 50 (bz_goto 2) from bz_o_goto (off := (-48)) (t := 2) (by decide +kernel) (by decide)) ?_
  refine bz_ac (show bz_rok cX6_drift none 53 0 from Or.inl ⟨rfl, rfl, by decide +kernel⟩) ?_
  exact bz_an
set_option maxRecDepth 100000 in
theorem bo_X10_bit (l : Launch) : ∀ q ∈ bt_X10_bit, bz_rw bz_P l bm_X10_bit q := by
  refine bz_ac (show bz_ok RX10 cX10_bit 0 (bz_push (.long 1) 1) from bz_o_lconst (n := 1) (v := 1) (by decide +kernel) (by decide)) ?_
  refine bz_ac (show bz_ok RX10 cX10_bit 1 (bz_iload 0 1) from bz_o_iload_n (k := 0) (i := 0) (by decide +kernel) rfl) ?_
  refine bz_ac (show bz_ok RX10 cX10_bit 2 (bz_lshl) from bz_o_lshl (by decide +kernel)) ?_
  refine bz_ac (show bz_rok cX10_bit (some .long) 3 2 from Or.inr (Or.inr (Or.inl ⟨rfl, rfl, by decide +kernel⟩))) ?_
  exact bz_an
set_option maxRecDepth 100000 in
theorem bo_X7_walk (l : Launch) : ∀ q ∈ bt_X7_walk, bz_rw bz_P l bm_X7_walk q := by
  refine bz_ac (show bz_ok RX7 cX7_walk 0 (bz_aload 0 1) from bz_o_aload_n (k := 0) (i := 0) (by decide +kernel) rfl) ?_
  refine bz_ac (show bz_ok RX7 cX7_walk 1 (bz_push (.int (-6)) 2) from bz_o_bipush (n := (-6)) (v := (-6)) (by decide +kernel) (by decide)) ?_
  refine bz_ac (show bz_ok RX7 cX7_walk 3 (bz_putI 6 1) from bz_o_putI (ci := 6) (k := 1) (idx := 15) (C := RX7) (T := TX7) (N := 3) rfl bh_6 rfl rfl (bz_tb 210 (by decide +kernel) (by decide +kernel)) tyX7 tyX7_ok nmX7 rfl rfl rfl (by decide +kernel)) ?_
  refine bz_ac (show bz_ok RX7 cX7_walk 6 (bz_aload 0 1) from bz_o_aload_n (k := 0) (i := 0) (by decide +kernel) rfl) ?_
  refine bz_ac (show bz_ok RX7 cX7_walk 7 (bz_push (.long 0) 1) from bz_o_lconst (n := 0) (v := 0) (by decide +kernel) (by decide)) ?_
  refine bz_ac (show bz_ok RX7 cX7_walk 8 (bz_putL 6 2) from bz_o_putL (ci := 6) (k := 2) (idx := 19) (C := RX7) (T := TX7) (N := 3) rfl bh_6 rfl rfl (bz_tb 212 (by decide +kernel) (by decide +kernel)) tyX7 tyX7_ok nmX7 rfl rfl rfl (by decide +kernel)) ?_
  refine bz_ac (show bz_ok RX7 cX7_walk 11 (bz_iload 1 1) from bz_o_iload_n (k := 1) (i := 1) (by decide +kernel) rfl) ?_
  refine bz_ac (show bz_ok RX7 cX7_walk 12 (bz_istore 3 1) from bz_o_istore_n (k := 3) (i := 3) (by decide +kernel) rfl) ?_
  refine bz_ac (show bz_ok RX7 cX7_walk 13 (bz_iload 2 1) from bz_o_iload_n (k := 2) (i := 2) (by decide +kernel) rfl) ?_
  refine bz_ac (show bz_ok RX7 cX7_walk 14 (bz_istore 4 2) from bz_o_istore (i := 4) (by decide +kernel)) ?_
  refine bz_ac (show bz_ok RX7 cX7_walk 16 (bz_push (.int 0) 1) from bz_o_iconst (n := 0) (v := 0) (by decide +kernel) (by decide)) ?_
  refine bz_ac (show bz_ok RX7 cX7_walk 17 (bz_istore 5 2) from bz_o_istore (i := 5) (by decide +kernel)) ?_
  refine bz_ac (show bz_ok RX7 cX7_walk 19 (bz_iload 5 2) from bz_o_iload (i := 5) (by decide +kernel)) ?_
  refine bz_ac (show bz_ok RX7 cX7_walk 21 (bz_push (.int 16) 2) from bz_o_bipush (n := 16) (v := 16) (by decide +kernel) (by decide)) ?_
  refine bz_ac (show bz_ok RX7 cX7_walk 23 (bz_ic_ge 96) from bz_o_ic_ge (off := 73) (t := 96) (by decide +kernel) (by decide)) ?_
  refine bz_ac (show bz_ok RX7 cX7_walk 26 (bz_aload 0 1) from bz_o_aload_n (k := 0) (i := 0) (by decide +kernel) rfl) ?_
  refine bz_ac (show bz_ok RX7 cX7_walk 27 (bz_getR 6 0) from bz_o_getR (ci := 6) (k := 0) (idx := 9) (C := RX7) (T := TX7) (N := 3) rfl bh_6 rfl rfl (bz_tb 209 (by decide +kernel) (by decide +kernel)) rfl (by decide +kernel)) ?_
  refine bz_ac (show bz_ok RX7 cX7_walk 30 (bz_iload 5 2) from bz_o_iload (i := 5) (by decide +kernel)) ?_
  refine bz_ac (show bz_ok RX7 cX7_walk 32 (bz_iload 3 1) from bz_o_iload_n (k := 3) (i := 3) (by decide +kernel) rfl) ?_
  refine bz_ac (show bz_ok RX7 cX7_walk 33 (bz_iast) from bz_o_iast (by decide +kernel)) ?_
  refine bz_ac (show bz_ok RX7 cX7_walk 34 (bz_aload 0 1) from bz_o_aload_n (k := 0) (i := 0) (by decide +kernel) rfl) ?_
  refine bz_ac (show bz_ok RX7 cX7_walk 35 (bz_dup) from bz_o_dup (by decide +kernel)) ?_
  refine bz_ac (show bz_ok RX7 cX7_walk 36 (bz_getL 6 2) from bz_o_getL (ci := 6) (k := 2) (idx := 19) (C := RX7) (T := TX7) (N := 3) rfl bh_6 rfl rfl (bz_tb 212 (by decide +kernel) (by decide +kernel)) rfl (by decide +kernel)) ?_
  refine bz_ac (show bz_ok RX7 cX7_walk 39 (bz_iload 3 1) from bz_o_iload_n (k := 3) (i := 3) (by decide +kernel) rfl) ?_
  refine bz_ac (show bz_cok bz_P l RX7 cX7_walk 1 24 40 mX10_bit 1 0 from bz_cN' (own := RX7) (host := "BaizeCorps") (idx := 23) (n := 1) bp_X10_bit bq_X10_bit (by decide +kernel) (bz_nb 507 (by decide +kernel) rfl) (bz_tb 508 (by decide +kernel) (by decide +kernel)) rfl (by decide) (by decide)) ?_
  refine bz_ac (show bz_ok RX7 cX7_walk 43 (bz_lor) from bz_o_lor (by decide +kernel)) ?_
  refine bz_ac (show bz_ok RX7 cX7_walk 44 (bz_putL 6 2) from bz_o_putL (ci := 6) (k := 2) (idx := 19) (C := RX7) (T := TX7) (N := 3) rfl bh_6 rfl rfl (bz_tb 212 (by decide +kernel) (by decide +kernel)) tyX7 tyX7_ok nmX7 rfl rfl rfl (by decide +kernel)) ?_
  refine bz_ac (show bz_ok RX7 cX7_walk 47 (bz_iload 3 1) from bz_o_iload_n (k := 3) (i := 3) (by decide +kernel) rfl) ?_
  refine bz_ac (show bz_ok RX7 cX7_walk 48 (bz_iload 4 2) from bz_o_iload (i := 4) (by decide +kernel)) ?_
  refine bz_ac (show bz_cok bz_P l RX7 cX7_walk 1 24 50 mX10_turned 2 0 from bz_cN' (own := RX7) (host := "BaizeCorps") (idx := 27) (n := 2) bp_X10_turned bq_X10_turned (by decide +kernel) (bz_nb 510 (by decide +kernel) rfl) (bz_tb 430 (by decide +kernel) (by decide +kernel)) rfl (by decide) (by decide)) ?_
  refine bz_ac (show bz_ok RX7 cX7_walk 53 (bz_istore 4 2) from bz_o_istore (i := 4) (by decide +kernel)) ?_
  refine bz_ac (show bz_ok RX7 cX7_walk 55 (bz_iload 3 1) from bz_o_iload_n (k := 3) (i := 3) (by decide +kernel) rfl) ?_
  refine bz_ac (show bz_ok RX7 cX7_walk 56 (bz_iload 4 2) from bz_o_iload (i := 4) (by decide +kernel)) ?_
  refine bz_ac (show bz_cok bz_P l RX7 cX7_walk 1 24 58 mX10_next 2 0 from bz_cN' (own := RX7) (host := "BaizeCorps") (idx := 31) (n := 2) bp_X10_next bq_X10_next (by decide +kernel) (bz_nb 511 (by decide +kernel) rfl) (bz_tb 437 (by decide +kernel) (by decide +kernel)) rfl (by decide) (by decide)) ?_
  refine bz_ac (show bz_ok RX7 cX7_walk 61 (bz_istore 3 1) from bz_o_istore_n (k := 3) (i := 3) (by decide +kernel) rfl) ?_
  refine bz_ac (show bz_ok RX7 cX7_walk 62 (bz_aload 0 1) from bz_o_aload_n (k := 0) (i := 0) (by decide +kernel) rfl) ?_
  refine bz_ac (show bz_ok RX7 cX7_walk 63 (bz_getI 6 1) from bz_o_getI (ci := 6) (k := 1) (idx := 15) (C := RX7) (T := TX7) (N := 3) rfl bh_6 rfl rfl (bz_tb 210 (by decide +kernel) (by decide +kernel)) (Or.inl rfl) (by decide +kernel)) ?_
  refine bz_ac (show bz_ok RX7 cX7_walk 66 (bz_push (.int (-6)) 2) from bz_o_bipush (n := (-6)) (v := (-6)) (by decide +kernel) (by decide)) ?_
  refine bz_ac (show bz_ok RX7 cX7_walk 68 (bz_ic_ne 90) from bz_o_ic_ne (off := 22) (t := 90) (by decide +kernel) (by decide)) ?_
  refine bz_ac (show bz_ok RX7 cX7_walk 71 (bz_iload 3 1) from bz_o_iload_n (k := 3) (i := 3) (by decide +kernel) rfl) ?_
  refine bz_ac (show bz_ok RX7 cX7_walk 72 (bz_iload 1 1) from bz_o_iload_n (k := 1) (i := 1) (by decide +kernel) rfl) ?_
  refine bz_ac (show bz_ok RX7 cX7_walk 73 (bz_ic_ne 90) from bz_o_ic_ne (off := 17) (t := 90) (by decide +kernel) (by decide)) ?_
  refine bz_ac (show bz_ok RX7 cX7_walk 76 (bz_iload 4 2) from bz_o_iload (i := 4) (by decide +kernel)) ?_
  refine bz_ac (show bz_ok RX7 cX7_walk 78 (bz_iload 2 1) from bz_o_iload_n (k := 2) (i := 2) (by decide +kernel) rfl) ?_
  refine bz_ac (show bz_ok RX7 cX7_walk 79 (bz_ic_ne 90) from bz_o_ic_ne (off := 11) (t := 90) (by decide +kernel) (by decide)) ?_
  refine bz_ac (show bz_ok RX7 cX7_walk 82 (bz_aload 0 1) from bz_o_aload_n (k := 0) (i := 0) (by decide +kernel) rfl) ?_
  refine bz_ac (show bz_ok RX7 cX7_walk 83 (bz_iload 5 2) from bz_o_iload (i := 5) (by decide +kernel)) ?_
  refine bz_ac (show bz_ok RX7 cX7_walk 85 (bz_push (.int 1) 1) from bz_o_iconst (n := 1) (v := 1) (by decide +kernel) (by decide)) ?_
  refine bz_ac (show bz_ok RX7 cX7_walk 86 (bz_iadd) from bz_o_iadd (by decide +kernel)) ?_
  refine bz_ac (show bz_ok RX7 cX7_walk 87 (bz_putI 6 1) from bz_o_putI (ci := 6) (k := 1) (idx := 15) (C := RX7) (T := TX7) (N := 3) rfl bh_6 rfl rfl (bz_tb 210 (by decide +kernel) (by decide +kernel)) tyX7 tyX7_ok nmX7 rfl rfl rfl (by decide +kernel)) ?_
  refine bz_ac (show bz_ok RX7 cX7_walk 90 (bz_iinc 5 1) from bz_o_iinc (i := 5) (n := 1) (v := 1) (by decide +kernel) (by decide)) ?_
  refine bz_ac (show bz_ok RX7 cX7_walk 93 (bz_goto 19) from bz_o_goto (off := (-74)) (t := 19) (by decide +kernel) (by decide)) ?_
  refine bz_ac (show bz_rok cX7_walk none 96 0 from Or.inl ⟨rfl, rfl, by decide +kernel⟩) ?_
  exact bz_an
