/-! the law asks: second half -/
section
variable {nm : String} {b0 L : Nat} {xs : Nat → Int32} {sh : mbSh} {ct : mbCt} {i : Int}
theorem L_baulk (hL : L ≤ 3072) (hi0 : 0 ≤ i) (hiL : i + 6 ≤ (L : Int)) (I : INV sh ct (4 * i)) (kk : ∀ sh2 ct2, INV sh2 ct2 (4 * (i + 6)) → G (KL nm b0 L xs) 1490 [some (.inr (.inr (-11))), some (.inr (.inr 0)), some (.inr (.inr 92)), some (.inl i)] [] sh2 ct2) : G (KL nm b0 L xs) 877 [some (.inr (.inr (-11))), some (.inr (.inr 0)), some (.inr (.inr 92)), some (.inl i)] [] sh ct := by
  obtain ⟨b, o, β, s, n, pl, q, N, hi, bi, si, sz, bt, vl, tn, C, M, J, R⟩ := I
  have S := R.1
  refine g_aload_n (q := 878) dL_law_877 rfl rfl ?_
  refine g_aload_n (q := 879) dL_law_878 rfl rfl ?_
  refine g_iload_n (q := 880) dL_law_879 rfl rfl ?_
  refine g_iconst (q := 881) dL_law_880 rfl ?_
  refine g_iadd (q := 882) dL_law_881 rfl ?_
  refine g_sld (q := 883) hi0 hiL (by omega) (by omega) dL_law_882 rfl ?_
  refine g_callV (q := 886) lL_114 mX11_baulk nX11_baulk rfl (x_baulk 0 sh _ S C.1.1 (by omega) C.2.1 (sv_i xs (i + 1))) (S.at _ rfl) rfl rfl shLe.rf (rmL R (by decide)) (Nat.le_of_ble_eq_true rfl) dL_law_883 rfl rfl (kI fun r c1 hp => ?_)
  obtain ⟨⟨tl, htl, a1⟩, X1, f1⟩ := hp
  obtain ⟨C1, e1, e2⟩ := C.k X1 (f1.g C.1.1.qc)
  have M1 := M.cl C1.L e1
  have J1 := J.cl e1 e2
  refine g_aload_n (q := 887) dL_law_886 rfl rfl ?_
  refine g_aload_n (q := 888) dL_law_887 rfl rfl ?_
  refine g_iload_n (q := 889) dL_law_888 rfl rfl ?_
  refine g_iconst (q := 890) dL_law_889 rfl ?_
  refine g_iadd (q := 891) dL_law_890 rfl ?_
  refine g_sld (q := 892) hi0 hiL (by omega) (by omega) dL_law_891 rfl ?_
  refine g_callV (q := 895) lL_117 mX12_baulk nX12_baulk rfl (tw_baulk 0 sh _ S M1.1.1.md M1.2.1 (sv_i xs (i + 1)) htl) (S.at _ rfl) rfl rfl shLe.rf (rmL R (by decide)) (Nat.le_of_ble_eq_true rfl) dL_law_892 rfl rfl (kI fun r2 c2 hp => ?_)
  obtain ⟨a2, f2⟩ := hp
  have e : r = r2 := noE (P := rowR β sz vl _ 12 0) (Q := fun x => x = _) (fun x y a b => rowR.uni a b) (fun x y a b => a.trans b.symm) a1 a2
  refine g_icmp_eq (q := 898) (tg := 1490) dL_law_895 (by decide) rfl (fun c_895 => ?_) (fun c_895 => ?_)
  · exact kk sh c2 ⟨b, o, β, s, n, pl, q, N, hi, bi, si, sz, bt, vl, tn, (C1.r (f2.L M1.L) f2.rf').up (by omega) (by omega), M1.k f2, J1.k f2, R⟩
  · exact absurd (by rw [e]) c_895
theorem L_errata (hL : L ≤ 3072) (hi0 : 0 ≤ i) (hiL : i + 6 ≤ (L : Int)) (I : INV sh ct (4 * i)) (kk : ∀ sh2 ct2, INV sh2 ct2 (4 * (i + 6)) → G (KL nm b0 L xs) 1490 [some (.inr (.inr (-11))), some (.inr (.inr 0)), some (.inr (.inr 92)), some (.inl i)] [] sh2 ct2) : G (KL nm b0 L xs) 900 [some (.inr (.inr (-11))), some (.inr (.inr 0)), some (.inr (.inr 92)), some (.inl i)] [] sh ct := by
  obtain ⟨b, o, β, s, n, pl, q, N, hi, bi, si, sz, bt, vl, tn, C, M, J, R⟩ := I
  have S := R.1
  refine g_aload_n (q := 901) dL_law_900 rfl rfl ?_
  refine g_aload_n (q := 902) dL_law_901 rfl rfl ?_
  refine g_iload_n (q := 903) dL_law_902 rfl rfl ?_
  refine g_iconst (q := 904) dL_law_903 rfl ?_
  refine g_iadd (q := 905) dL_law_904 rfl ?_
  refine g_sld (q := 906) hi0 hiL (by omega) (by omega) dL_law_905 rfl ?_
  refine g_aload_n (q := 907) dL_law_906 rfl rfl ?_
  refine g_iload_n (q := 908) dL_law_907 rfl rfl ?_
  refine g_iconst (q := 909) dL_law_908 rfl ?_
  refine g_iadd (q := 910) dL_law_909 rfl ?_
  refine g_sld (q := 911) hi0 hiL (by omega) (by omega) dL_law_910 rfl ?_
  refine g_callV (q := 914) lL_118 mX11_errata nX11_errata rfl (x_errata 0 sh _ S C.1.1 (by omega) C.2.1 (sv_i xs (i + 1)) (sv_i xs (i + 2))) (S.at _ rfl) rfl rfl shLe.rf (rmL R (by decide)) (Nat.le_of_ble_eq_true rfl) dL_law_911 rfl rfl (kI fun r c1 hp => ?_)
  obtain ⟨⟨tl, htl, a1⟩, X1, f1⟩ := hp
  obtain ⟨C1, e1, e2⟩ := C.k X1 (f1.g C.1.1.qc)
  have M1 := M.cl C1.L e1
  have J1 := J.cl e1 e2
  refine g_aload_n (q := 915) dL_law_914 rfl rfl ?_
  refine g_aload_n (q := 916) dL_law_915 rfl rfl ?_
  refine g_iload_n (q := 917) dL_law_916 rfl rfl ?_
  refine g_iconst (q := 918) dL_law_917 rfl ?_
  refine g_iadd (q := 919) dL_law_918 rfl ?_
  refine g_sld (q := 920) hi0 hiL (by omega) (by omega) dL_law_919 rfl ?_
  refine g_aload_n (q := 921) dL_law_920 rfl rfl ?_
  refine g_iload_n (q := 922) dL_law_921 rfl rfl ?_
  refine g_iconst (q := 923) dL_law_922 rfl ?_
  refine g_iadd (q := 924) dL_law_923 rfl ?_
  refine g_sld (q := 925) hi0 hiL (by omega) (by omega) dL_law_924 rfl ?_
  refine g_callV (q := 928) lL_121 mX12_errata nX12_errata rfl (tw_errata 0 sh _ S M1.1.1.md M1.2.1 (sv_i xs (i + 1)) (sv_i xs (i + 2)) htl) (S.at _ rfl) rfl rfl shLe.rf (rmL R (by decide)) (Nat.le_of_ble_eq_true rfl) dL_law_925 rfl rfl (kI fun r2 c2 hp => ?_)
  obtain ⟨a2, f2⟩ := hp
  have e : r = r2 := noE (P := errNo β sz vl _ _) (Q := fun x => x = _) (fun x y a b => errNo.uni a b) (fun x y a b => a.trans b.symm) a1 a2
  refine g_icmp_eq (q := 931) (tg := 1490) dL_law_928 (by decide) rfl (fun c_928 => ?_) (fun c_928 => ?_)
  · exact kk sh c2 ⟨b, o, β, s, n, pl, q, N, hi, bi, si, sz, bt, vl, tn, (C1.r (f2.L M1.L) f2.rf').up (by omega) (by omega), M1.k f2, J1.k f2, R⟩
  · exact absurd (by rw [e]) c_928
theorem L_right (hL : L ≤ 3072) (hi0 : 0 ≤ i) (hiL : i + 6 ≤ (L : Int)) (I : INV sh ct (4 * i)) (kk : ∀ sh2 ct2, INV sh2 ct2 (4 * (i + 6)) → G (KL nm b0 L xs) 1490 [some (.inr (.inr (-11))), some (.inr (.inr 0)), some (.inr (.inr 92)), some (.inl i)] [] sh2 ct2) : G (KL nm b0 L xs) 933 [some (.inr (.inr (-11))), some (.inr (.inr 0)), some (.inr (.inr 92)), some (.inl i)] [] sh ct := by
  obtain ⟨b, o, β, s, n, pl, q, N, hi, bi, si, sz, bt, vl, tn, C, M, J, R⟩ := I
  have S := R.1
  refine g_aload_n (q := 934) dL_law_933 rfl rfl ?_
  refine g_aload_n (q := 935) dL_law_934 rfl rfl ?_
  refine g_iload_n (q := 936) dL_law_935 rfl rfl ?_
  refine g_iconst (q := 937) dL_law_936 rfl ?_
  refine g_iadd (q := 938) dL_law_937 rfl ?_
  refine g_sld (q := 939) hi0 hiL (by omega) (by omega) dL_law_938 rfl ?_
  refine g_aload_n (q := 940) dL_law_939 rfl rfl ?_
  refine g_iload_n (q := 941) dL_law_940 rfl rfl ?_
  refine g_iconst (q := 942) dL_law_941 rfl ?_
  refine g_iadd (q := 943) dL_law_942 rfl ?_
  refine g_sld (q := 944) hi0 hiL (by omega) (by omega) dL_law_943 rfl ?_
  refine g_aload_n (q := 945) dL_law_944 rfl rfl ?_
  refine g_iload_n (q := 946) dL_law_945 rfl rfl ?_
  refine g_iconst (q := 947) dL_law_946 rfl ?_
  refine g_iadd (q := 948) dL_law_947 rfl ?_
  refine g_sld (q := 949) hi0 hiL (by omega) (by omega) dL_law_948 rfl ?_
  refine g_callV (q := 952) lL_122 mX11_right nX11_right rfl (x_right 0 sh _ S C.1.1 (by omega) C.2.1 (sv_i xs (i + 1)) (sv_i xs (i + 2)) (sv_i xs (i + 3))) (S.at _ rfl) rfl rfl shLe.rf (rmL R (by decide)) (Nat.le_of_ble_eq_true rfl) dL_law_949 rfl rfl (kI fun r c1 hp => ?_)
  obtain ⟨⟨tl, htl, a1⟩, X1, f1⟩ := hp
  obtain ⟨C1, e1, e2⟩ := C.k X1 (f1.g C.1.1.qc)
  have M1 := M.cl C1.L e1
  have J1 := J.cl e1 e2
  refine g_aload_n (q := 953) dL_law_952 rfl rfl ?_
  refine g_aload_n (q := 954) dL_law_953 rfl rfl ?_
  refine g_iload_n (q := 955) dL_law_954 rfl rfl ?_
  refine g_iconst (q := 956) dL_law_955 rfl ?_
  refine g_iadd (q := 957) dL_law_956 rfl ?_
  refine g_sld (q := 958) hi0 hiL (by omega) (by omega) dL_law_957 rfl ?_
  refine g_aload_n (q := 959) dL_law_958 rfl rfl ?_
  refine g_iload_n (q := 960) dL_law_959 rfl rfl ?_
  refine g_iconst (q := 961) dL_law_960 rfl ?_
  refine g_iadd (q := 962) dL_law_961 rfl ?_
  refine g_sld (q := 963) hi0 hiL (by omega) (by omega) dL_law_962 rfl ?_
  refine g_aload_n (q := 964) dL_law_963 rfl rfl ?_
  refine g_iload_n (q := 965) dL_law_964 rfl rfl ?_
  refine g_iconst (q := 966) dL_law_965 rfl ?_
  refine g_iadd (q := 967) dL_law_966 rfl ?_
  refine g_sld (q := 968) hi0 hiL (by omega) (by omega) dL_law_967 rfl ?_
  refine g_callV (q := 971) lL_126 mX12_right nX12_right rfl (tw_right 0 sh _ S M1.1.1.md M1.2.1 (sv_i xs (i + 1)) (sv_i xs (i + 2)) (sv_i xs (i + 3)) htl) (S.at _ rfl) rfl rfl shLe.rf (rmL R (by decide)) (Nat.le_of_ble_eq_true rfl) dL_law_968 rfl rfl (kI fun r2 c2 hp => ?_)
  obtain ⟨a2, f2⟩ := hp
  have e : r = r2 := qRight.uni a1 a2
  refine g_icmp_eq (q := 974) (tg := 1490) dL_law_971 (by decide) rfl (fun c_971 => ?_) (fun c_971 => ?_)
  · exact kk sh c2 ⟨b, o, β, s, n, pl, q, N, hi, bi, si, sz, bt, vl, tn, (C1.r (f2.L M1.L) f2.rf').up (by omega) (by omega), M1.k f2, J1.k f2, R⟩
  · exact absurd (by rw [e]) c_971
theorem L_back (hL : L ≤ 3072) (hi0 : 0 ≤ i) (hiL : i + 6 ≤ (L : Int)) (I : INV sh ct (4 * i)) (kk : ∀ sh2 ct2, INV sh2 ct2 (4 * (i + 6)) → G (KL nm b0 L xs) 1490 [some (.inr (.inr (-11))), some (.inr (.inr 0)), some (.inr (.inr 92)), some (.inl i)] [] sh2 ct2) : G (KL nm b0 L xs) 976 [some (.inr (.inr (-11))), some (.inr (.inr 0)), some (.inr (.inr 92)), some (.inl i)] [] sh ct := by
  obtain ⟨b, o, β, s, n, pl, q, N, hi, bi, si, sz, bt, vl, tn, C, M, J, R⟩ := I
  have S := R.1
  refine g_aload_n (q := 977) dL_law_976 rfl rfl ?_
  refine g_aload_n (q := 978) dL_law_977 rfl rfl ?_
  refine g_iload_n (q := 979) dL_law_978 rfl rfl ?_
  refine g_iconst (q := 980) dL_law_979 rfl ?_
  refine g_iadd (q := 981) dL_law_980 rfl ?_
  refine g_sld (q := 982) hi0 hiL (by omega) (by omega) dL_law_981 rfl ?_
  refine g_aload_n (q := 983) dL_law_982 rfl rfl ?_
  refine g_iload_n (q := 984) dL_law_983 rfl rfl ?_
  refine g_iconst (q := 985) dL_law_984 rfl ?_
  refine g_iadd (q := 986) dL_law_985 rfl ?_
  refine g_sld (q := 987) hi0 hiL (by omega) (by omega) dL_law_986 rfl ?_
  refine g_callV (q := 990) lL_127 mX11_back nX11_back rfl (x_back 0 sh _ S C.1.1 (by omega) C.2.1 (sv_i xs (i + 1)) (sv_i xs (i + 2))) (S.at _ rfl) rfl rfl shLe.rf (rmL R (by decide)) (Nat.le_of_ble_eq_true rfl) dL_law_987 rfl rfl (kI fun r c1 hp => ?_)
  obtain ⟨⟨tl, htl, a1⟩, X1, f1⟩ := hp
  obtain ⟨C1, e1, e2⟩ := C.k X1 (f1.g C.1.1.qc)
  have M1 := M.cl C1.L e1
  have J1 := J.cl e1 e2
  refine g_aload_n (q := 991) dL_law_990 rfl rfl ?_
  refine g_aload_n (q := 992) dL_law_991 rfl rfl ?_
  refine g_iload_n (q := 993) dL_law_992 rfl rfl ?_
  refine g_iconst (q := 994) dL_law_993 rfl ?_
  refine g_iadd (q := 995) dL_law_994 rfl ?_
  refine g_sld (q := 996) hi0 hiL (by omega) (by omega) dL_law_995 rfl ?_
  refine g_aload_n (q := 997) dL_law_996 rfl rfl ?_
  refine g_iload_n (q := 998) dL_law_997 rfl rfl ?_
  refine g_iconst (q := 999) dL_law_998 rfl ?_
  refine g_iadd (q := 1000) dL_law_999 rfl ?_
  refine g_sld (q := 1001) hi0 hiL (by omega) (by omega) dL_law_1000 rfl ?_
  refine g_callV (q := 1004) lL_130 mX12_back nX12_back rfl (tw_back 0 sh _ S M1.1.1.md M1.2.1 (sv_i xs (i + 1)) (sv_i xs (i + 2)) htl) (S.at _ rfl) rfl rfl shLe.rf (rmL R (by decide)) (Nat.le_of_ble_eq_true rfl) dL_law_1001 rfl rfl (kI fun r2 c2 hp => ?_)
  obtain ⟨a2, f2⟩ := hp
  have e : r = r2 := qBack.uni a1 a2
  refine g_icmp_eq (q := 1007) (tg := 1490) dL_law_1004 (by decide) rfl (fun c_1004 => ?_) (fun c_1004 => ?_)
  · exact kk sh c2 ⟨b, o, β, s, n, pl, q, N, hi, bi, si, sz, bt, vl, tn, (C1.r (f2.L M1.L) f2.rf').up (by omega) (by omega), M1.k f2, J1.k f2, R⟩
  · exact absurd (by rw [e]) c_1004
theorem L_lost (hL : L ≤ 3072) (hi0 : 0 ≤ i) (hiL : i + 6 ≤ (L : Int)) (I : INV sh ct (4 * i)) (kk : ∀ sh2 ct2, INV sh2 ct2 (4 * (i + 6)) → G (KL nm b0 L xs) 1490 [some (.inr (.inr (-11))), some (.inr (.inr 0)), some (.inr (.inr 92)), some (.inl i)] [] sh2 ct2) : G (KL nm b0 L xs) 1009 [some (.inr (.inr (-11))), some (.inr (.inr 0)), some (.inr (.inr 92)), some (.inl i)] [] sh ct := by
  obtain ⟨b, o, β, s, n, pl, q, N, hi, bi, si, sz, bt, vl, tn, C, M, J, R⟩ := I
  have S := R.1
  refine g_aload_n (q := 1010) dL_law_1009 rfl rfl ?_
  refine g_aload_n (q := 1011) dL_law_1010 rfl rfl ?_
  refine g_iload_n (q := 1012) dL_law_1011 rfl rfl ?_
  refine g_iconst (q := 1013) dL_law_1012 rfl ?_
  refine g_iadd (q := 1014) dL_law_1013 rfl ?_
  refine g_sld (q := 1015) hi0 hiL (by omega) (by omega) dL_law_1014 rfl ?_
  refine g_callV (q := 1018) lL_131 mX11_lost nX11_lost rfl (x_lost 0 sh _ S C.1.1 (by omega) C.2.1 (sv_i xs (i + 1))) (S.at _ rfl) rfl rfl shLe.rf (rmL R (by decide)) (Nat.le_of_ble_eq_true rfl) dL_law_1015 rfl rfl (kL fun r c1 hp => ?_)
  obtain ⟨⟨tl, htl, a1⟩, X1, f1⟩ := hp
  obtain ⟨C1, e1, e2⟩ := C.k X1 (f1.g C.1.1.qc)
  have M1 := M.cl C1.L e1
  have J1 := J.cl e1 e2
  refine g_aload_n (q := 1019) dL_law_1018 rfl rfl ?_
  refine g_aload_n (q := 1020) dL_law_1019 rfl rfl ?_
  refine g_iload_n (q := 1021) dL_law_1020 rfl rfl ?_
  refine g_iconst (q := 1022) dL_law_1021 rfl ?_
  refine g_iadd (q := 1023) dL_law_1022 rfl ?_
  refine g_sld (q := 1024) hi0 hiL (by omega) (by omega) dL_law_1023 rfl ?_
  refine g_callV (q := 1027) lL_135 mX12_lost nX12_lost rfl (tw_lost 0 sh _ S M1.1.1.md M1.2.1 (sv_i xs (i + 1)) htl) (S.at _ rfl) rfl rfl shLe.rf (rmL R (by decide)) (Nat.le_of_ble_eq_true rfl) dL_law_1024 rfl rfl (kL fun r2 c2 hp => ?_)
  obtain ⟨a2, f2⟩ := hp
  have e : r = r2 := noE (P := rowR β sz vl _ 10 1) (Q := fun x => x = _) (fun x y a b => rowR.uni a b) (fun x y a b => a.trans b.symm) a1 a2
  refine g_lcmp (q := 1028) dL_law_1027 rfl ?_
  refine g_if_eq (q := 1031) (tg := 1490) dL_law_1028 (by decide) rfl (fun c_1028 => ?_) (fun c_1028 => ?_)
  · exact kk sh c2 ⟨b, o, β, s, n, pl, q, N, hi, bi, si, sz, bt, vl, tn, (C1.r (f2.L M1.L) f2.rf').up (by omega) (by omega), M1.k f2, J1.k f2, R⟩
  · exact absurd (cmp_eq.mpr (by rw [e])) c_1028
theorem L_sureMinute (hL : L ≤ 3072) (hi0 : 0 ≤ i) (hiL : i + 6 ≤ (L : Int)) (I : INV sh ct (4 * i)) (kk : ∀ sh2 ct2, INV sh2 ct2 (4 * (i + 6)) → G (KL nm b0 L xs) 1490 [some (.inr (.inr (-11))), some (.inr (.inr 0)), some (.inr (.inr 92)), some (.inl i)] [] sh2 ct2) : G (KL nm b0 L xs) 1033 [some (.inr (.inr (-11))), some (.inr (.inr 0)), some (.inr (.inr 92)), some (.inl i)] [] sh ct := by
  obtain ⟨b, o, β, s, n, pl, q, N, hi, bi, si, sz, bt, vl, tn, C, M, J, R⟩ := I
  have S := R.1
  refine g_aload_n (q := 1034) dL_law_1033 rfl rfl ?_
  refine g_aload_n (q := 1035) dL_law_1034 rfl rfl ?_
  refine g_iload_n (q := 1036) dL_law_1035 rfl rfl ?_
  refine g_iconst (q := 1037) dL_law_1036 rfl ?_
  refine g_iadd (q := 1038) dL_law_1037 rfl ?_
  refine g_sld (q := 1039) hi0 hiL (by omega) (by omega) dL_law_1038 rfl ?_
  refine g_aload_n (q := 1040) dL_law_1039 rfl rfl ?_
  refine g_iload_n (q := 1041) dL_law_1040 rfl rfl ?_
  refine g_iconst (q := 1042) dL_law_1041 rfl ?_
  refine g_iadd (q := 1043) dL_law_1042 rfl ?_
  refine g_sld (q := 1044) hi0 hiL (by omega) (by omega) dL_law_1043 rfl ?_
  refine g_callV (q := 1047) lL_136 mX11_sureMinute nX11_sureMinute rfl (x_sureMinute 0 sh _ S C.1.1 (by omega) C.2.1 (sv_i xs (i + 1)) (sv_i xs (i + 2))) (S.at _ rfl) rfl rfl shLe.rf (rmL R (by decide)) (Nat.le_of_ble_eq_true rfl) dL_law_1044 rfl rfl (kI fun r c1 hp => ?_)
  obtain ⟨⟨tl, htl, a1⟩, X1, f1⟩ := hp
  obtain ⟨C1, e1, e2⟩ := C.k X1 (f1.g C.1.1.qc)
  have M1 := M.cl C1.L e1
  have J1 := J.cl e1 e2
  refine g_aload_n (q := 1048) dL_law_1047 rfl rfl ?_
  refine g_aload_n (q := 1049) dL_law_1048 rfl rfl ?_
  refine g_iload_n (q := 1050) dL_law_1049 rfl rfl ?_
  refine g_iconst (q := 1051) dL_law_1050 rfl ?_
  refine g_iadd (q := 1052) dL_law_1051 rfl ?_
  refine g_sld (q := 1053) hi0 hiL (by omega) (by omega) dL_law_1052 rfl ?_
  refine g_aload_n (q := 1054) dL_law_1053 rfl rfl ?_
  refine g_iload_n (q := 1055) dL_law_1054 rfl rfl ?_
  refine g_iconst (q := 1056) dL_law_1055 rfl ?_
  refine g_iadd (q := 1057) dL_law_1056 rfl ?_
  refine g_sld (q := 1058) hi0 hiL (by omega) (by omega) dL_law_1057 rfl ?_
  refine g_callV (q := 1061) lL_139 mX12_sureMinute nX12_sureMinute rfl (tw_sureMinute 0 sh _ S M1.1.1.md M1.2.1 (sv_i xs (i + 1)) (sv_i xs (i + 2)) htl) (S.at _ rfl) rfl rfl shLe.rf (rmL R (by decide)) (Nat.le_of_ble_eq_true rfl) dL_law_1058 rfl rfl (kI fun r2 c2 hp => ?_)
  obtain ⟨a2, f2⟩ := hp
  have e : r = r2 := noE (P := lostNo β sz vl _ _) (Q := fun x => qSure β s.2.2 tl _ s.1 _ x) (fun x y a b => lostNo.uni a b) (fun x y a b => qSure.uni a b) a1 a2
  refine g_icmp_eq (q := 1064) (tg := 1490) dL_law_1061 (by decide) rfl (fun c_1061 => ?_) (fun c_1061 => ?_)
  · exact kk sh c2 ⟨b, o, β, s, n, pl, q, N, hi, bi, si, sz, bt, vl, tn, (C1.r (f2.L M1.L) f2.rf').up (by omega) (by omega), M1.k f2, J1.k f2, R⟩
  · exact absurd (by rw [e]) c_1061
theorem L_speakers (hL : L ≤ 3072) (hi0 : 0 ≤ i) (hiL : i + 6 ≤ (L : Int)) (I : INV sh ct (4 * i)) (kk : ∀ sh2 ct2, INV sh2 ct2 (4 * (i + 6)) → G (KL nm b0 L xs) 1490 [some (.inr (.inr (-11))), some (.inr (.inr 0)), some (.inr (.inr 92)), some (.inl i)] [] sh2 ct2) : G (KL nm b0 L xs) 1066 [some (.inr (.inr (-11))), some (.inr (.inr 0)), some (.inr (.inr 92)), some (.inl i)] [] sh ct := by
  obtain ⟨b, o, β, s, n, pl, q, N, hi, bi, si, sz, bt, vl, tn, C, M, J, R⟩ := I
  have S := R.1
  refine g_aload_n (q := 1067) dL_law_1066 rfl rfl ?_
  refine g_aload_n (q := 1068) dL_law_1067 rfl rfl ?_
  refine g_iload_n (q := 1069) dL_law_1068 rfl rfl ?_
  refine g_iconst (q := 1070) dL_law_1069 rfl ?_
  refine g_iadd (q := 1071) dL_law_1070 rfl ?_
  refine g_sld (q := 1072) hi0 hiL (by omega) (by omega) dL_law_1071 rfl ?_
  refine g_aload_n (q := 1073) dL_law_1072 rfl rfl ?_
  refine g_iload_n (q := 1074) dL_law_1073 rfl rfl ?_
  refine g_iconst (q := 1075) dL_law_1074 rfl ?_
  refine g_iadd (q := 1076) dL_law_1075 rfl ?_
  refine g_sld (q := 1077) hi0 hiL (by omega) (by omega) dL_law_1076 rfl ?_
  refine g_callV (q := 1080) lL_140 mX11_speakers nX11_speakers rfl (x_speakers 0 sh _ S C.1.1 (by omega) C.2.1 (sv_i xs (i + 1)) (sv_i xs (i + 2))) (S.at _ rfl) rfl rfl shLe.rf (rmL R (by decide)) (Nat.le_of_ble_eq_true rfl) dL_law_1077 rfl rfl (kI fun r c1 hp => ?_)
  obtain ⟨⟨tl, htl, a1⟩, X1, f1⟩ := hp
  obtain ⟨C1, e1, e2⟩ := C.k X1 (f1.g C.1.1.qc)
  have M1 := M.cl C1.L e1
  have J1 := J.cl e1 e2
  refine g_aload_n (q := 1081) dL_law_1080 rfl rfl ?_
  refine g_aload_n (q := 1082) dL_law_1081 rfl rfl ?_
  refine g_iload_n (q := 1083) dL_law_1082 rfl rfl ?_
  refine g_iconst (q := 1084) dL_law_1083 rfl ?_
  refine g_iadd (q := 1085) dL_law_1084 rfl ?_
  refine g_sld (q := 1086) hi0 hiL (by omega) (by omega) dL_law_1085 rfl ?_
  refine g_aload_n (q := 1087) dL_law_1086 rfl rfl ?_
  refine g_iload_n (q := 1088) dL_law_1087 rfl rfl ?_
  refine g_iconst (q := 1089) dL_law_1088 rfl ?_
  refine g_iadd (q := 1090) dL_law_1089 rfl ?_
  refine g_sld (q := 1091) hi0 hiL (by omega) (by omega) dL_law_1090 rfl ?_
  refine g_callV (q := 1094) lL_143 mX12_speakers nX12_speakers rfl (tw_speakers 0 sh _ S M1.1.1.md M1.2.1 (sv_i xs (i + 1)) (sv_i xs (i + 2)) htl) (S.at _ rfl) rfl rfl shLe.rf (rmL R (by decide)) (Nat.le_of_ble_eq_true rfl) dL_law_1091 rfl rfl (kI fun r2 c2 hp => ?_)
  obtain ⟨a2, f2⟩ := hp
  have e : r = r2 := noE (P := lostNo β sz vl _ _) (Q := fun x => isSet 6 _ x) (fun x y a b => lostNo.uni a b) (fun x y a b => isSet.uni a b) a1 a2
  refine g_icmp_eq (q := 1097) (tg := 1490) dL_law_1094 (by decide) rfl (fun c_1094 => ?_) (fun c_1094 => ?_)
  · exact kk sh c2 ⟨b, o, β, s, n, pl, q, N, hi, bi, si, sz, bt, vl, tn, (C1.r (f2.L M1.L) f2.rf').up (by omega) (by omega), M1.k f2, J1.k f2, R⟩
  · exact absurd (by rw [e]) c_1094
theorem L_kept (hL : L ≤ 3072) (hi0 : 0 ≤ i) (hiL : i + 6 ≤ (L : Int)) (I : INV sh ct (4 * i)) (kk : ∀ sh2 ct2, INV sh2 ct2 (4 * (i + 6)) → G (KL nm b0 L xs) 1490 [some (.inr (.inr (-11))), some (.inr (.inr 0)), some (.inr (.inr 92)), some (.inl i)] [] sh2 ct2) : G (KL nm b0 L xs) 1099 [some (.inr (.inr (-11))), some (.inr (.inr 0)), some (.inr (.inr 92)), some (.inl i)] [] sh ct := by
  obtain ⟨b, o, β, s, n, pl, q, N, hi, bi, si, sz, bt, vl, tn, C, M, J, R⟩ := I
  have S := R.1
  refine g_aload_n (q := 1100) dL_law_1099 rfl rfl ?_
  refine g_aload_n (q := 1101) dL_law_1100 rfl rfl ?_
  refine g_iload_n (q := 1102) dL_law_1101 rfl rfl ?_
  refine g_iconst (q := 1103) dL_law_1102 rfl ?_
  refine g_iadd (q := 1104) dL_law_1103 rfl ?_
  refine g_sld (q := 1105) hi0 hiL (by omega) (by omega) dL_law_1104 rfl ?_
  refine g_aload_n (q := 1106) dL_law_1105 rfl rfl ?_
  refine g_iload_n (q := 1107) dL_law_1106 rfl rfl ?_
  refine g_iconst (q := 1108) dL_law_1107 rfl ?_
  refine g_iadd (q := 1109) dL_law_1108 rfl ?_
  refine g_sld (q := 1110) hi0 hiL (by omega) (by omega) dL_law_1109 rfl ?_
  refine g_callV (q := 1113) lL_144 mX11_kept nX11_kept rfl (x_kept 0 sh _ S C.1.1 C.2.1 (sv_i xs (i + 1)) (sv_i xs (i + 2))) (S.at _ rfl) rfl rfl shLe.rf (rmL R (by decide)) (Nat.le_of_ble_eq_true rfl) dL_law_1110 rfl rfl (kI fun r c1 hp => ?_)
  obtain ⟨⟨tl, htl, a1⟩, X1, f1⟩ := hp
  obtain ⟨C1, e1, e2⟩ := C.k X1 (f1.g C.1.1.qc)
  have M1 := M.cl C1.L e1
  have J1 := J.cl e1 e2
  refine g_aload_n (q := 1114) dL_law_1113 rfl rfl ?_
  refine g_aload_n (q := 1115) dL_law_1114 rfl rfl ?_
  refine g_iload_n (q := 1116) dL_law_1115 rfl rfl ?_
  refine g_iconst (q := 1117) dL_law_1116 rfl ?_
  refine g_iadd (q := 1118) dL_law_1117 rfl ?_
  refine g_sld (q := 1119) hi0 hiL (by omega) (by omega) dL_law_1118 rfl ?_
  refine g_aload_n (q := 1120) dL_law_1119 rfl rfl ?_
  refine g_iload_n (q := 1121) dL_law_1120 rfl rfl ?_
  refine g_iconst (q := 1122) dL_law_1121 rfl ?_
  refine g_iadd (q := 1123) dL_law_1122 rfl ?_
  refine g_sld (q := 1124) hi0 hiL (by omega) (by omega) dL_law_1123 rfl ?_
  refine g_callV (q := 1127) lL_147 mX12_kept nX12_kept rfl (tw_kept 0 sh _ S M1.1.1.md M1.2.1 (sv_i xs (i + 1)) (sv_i xs (i + 2)) htl) (S.at _ rfl) rfl rfl shLe.rf (rmL R (by decide)) (Nat.le_of_ble_eq_true rfl) dL_law_1124 rfl rfl (kI fun r2 c2 hp => ?_)
  obtain ⟨a2, f2⟩ := hp
  have e : r = r2 := noE (P := keptNo β sz vl _ _) (Q := fun x => isSet 10 _ x) (fun x y a b => keptNo.uni a b) (fun x y a b => isSet.uni a b) a1 a2
  refine g_icmp_eq (q := 1130) (tg := 1490) dL_law_1127 (by decide) rfl (fun c_1127 => ?_) (fun c_1127 => ?_)
  · exact kk sh c2 ⟨b, o, β, s, n, pl, q, N, hi, bi, si, sz, bt, vl, tn, (C1.r (f2.L M1.L) f2.rf').up (by omega) (by omega), M1.k f2, J1.k f2, R⟩
  · exact absurd (by rw [e]) c_1127
theorem L_attempt (hL : L ≤ 3072) (hi0 : 0 ≤ i) (hiL : i + 6 ≤ (L : Int)) (I : INV sh ct (4 * i)) (kk : ∀ sh2 ct2, INV sh2 ct2 (4 * (i + 6)) → G (KL nm b0 L xs) 1490 [some (.inr (.inr (-11))), some (.inr (.inr 0)), some (.inr (.inr 92)), some (.inl i)] [] sh2 ct2) : G (KL nm b0 L xs) 1132 [some (.inr (.inr (-11))), some (.inr (.inr 0)), some (.inr (.inr 92)), some (.inl i)] [] sh ct := by
  obtain ⟨b, o, β, s, n, pl, q, N, hi, bi, si, sz, bt, vl, tn, C, M, J, R⟩ := I
  have S := R.1
  refine g_aload_n (q := 1133) dL_law_1132 rfl rfl ?_
  refine g_aload_n (q := 1134) dL_law_1133 rfl rfl ?_
  refine g_iload_n (q := 1135) dL_law_1134 rfl rfl ?_
  refine g_iconst (q := 1136) dL_law_1135 rfl ?_
  refine g_iadd (q := 1137) dL_law_1136 rfl ?_
  refine g_sld (q := 1138) hi0 hiL (by omega) (by omega) dL_law_1137 rfl ?_
  refine g_aload_n (q := 1139) dL_law_1138 rfl rfl ?_
  refine g_iload_n (q := 1140) dL_law_1139 rfl rfl ?_
  refine g_iconst (q := 1141) dL_law_1140 rfl ?_
  refine g_iadd (q := 1142) dL_law_1141 rfl ?_
  refine g_sld (q := 1143) hi0 hiL (by omega) (by omega) dL_law_1142 rfl ?_
  refine g_callV (q := 1146) lL_148 mX11_attempt nX11_attempt rfl (x_attempt 0 sh _ S C.1.1 C.2.1 (sv_i xs (i + 1)) (sv_i xs (i + 2))) (S.at _ rfl) rfl rfl shLe.rf (rmL R (by decide)) (Nat.le_of_ble_eq_true rfl) dL_law_1143 rfl rfl (kI fun r c1 hp => ?_)
  obtain ⟨⟨tl, htl, a1⟩, X1, f1⟩ := hp
  obtain ⟨C1, e1, e2⟩ := C.k X1 (f1.g C.1.1.qc)
  have M1 := M.cl C1.L e1
  have J1 := J.cl e1 e2
  refine g_aload_n (q := 1147) dL_law_1146 rfl rfl ?_
  refine g_aload_n (q := 1148) dL_law_1147 rfl rfl ?_
  refine g_iload_n (q := 1149) dL_law_1148 rfl rfl ?_
  refine g_iconst (q := 1150) dL_law_1149 rfl ?_
  refine g_iadd (q := 1151) dL_law_1150 rfl ?_
  refine g_sld (q := 1152) hi0 hiL (by omega) (by omega) dL_law_1151 rfl ?_
  refine g_aload_n (q := 1153) dL_law_1152 rfl rfl ?_
  refine g_iload_n (q := 1154) dL_law_1153 rfl rfl ?_
  refine g_iconst (q := 1155) dL_law_1154 rfl ?_
  refine g_iadd (q := 1156) dL_law_1155 rfl ?_
  refine g_sld (q := 1157) hi0 hiL (by omega) (by omega) dL_law_1156 rfl ?_
  refine g_callV (q := 1160) lL_151 mX12_attempt nX12_attempt rfl (tw_attempt 0 sh _ S M1.1.1.md M1.2.1 (sv_i xs (i + 1)) (sv_i xs (i + 2)) htl) (S.at _ rfl) rfl rfl shLe.rf (rmL R (by decide)) (Nat.le_of_ble_eq_true rfl) dL_law_1157 rfl rfl (kI fun r2 c2 hp => ?_)
  obtain ⟨a2, f2⟩ := hp
  have e : r = r2 := noE (P := keptNo β sz vl _ _) (Q := fun x => qAtt β tl s.1 _ _ x) (fun x y a b => keptNo.uni a b) (fun x y a b => qAtt.uni a b) a1 a2
  refine g_icmp_eq (q := 1163) (tg := 1490) dL_law_1160 (by decide) rfl (fun c_1160 => ?_) (fun c_1160 => ?_)
  · exact kk sh c2 ⟨b, o, β, s, n, pl, q, N, hi, bi, si, sz, bt, vl, tn, (C1.r (f2.L M1.L) f2.rf').up (by omega) (by omega), M1.k f2, J1.k f2, R⟩
  · exact absurd (by rw [e]) c_1160
theorem L_forces (hL : L ≤ 3072) (hi0 : 0 ≤ i) (hiL : i + 6 ≤ (L : Int)) (I : INV sh ct (4 * i)) (kk : ∀ sh2 ct2, INV sh2 ct2 (4 * (i + 6)) → G (KL nm b0 L xs) 1490 [some (.inr (.inr (-11))), some (.inr (.inr 0)), some (.inr (.inr 92)), some (.inl i)] [] sh2 ct2) : G (KL nm b0 L xs) 1165 [some (.inr (.inr (-11))), some (.inr (.inr 0)), some (.inr (.inr 92)), some (.inl i)] [] sh ct := by
  obtain ⟨b, o, β, s, n, pl, q, N, hi, bi, si, sz, bt, vl, tn, C, M, J, R⟩ := I
  have S := R.1
  refine g_aload_n (q := 1166) dL_law_1165 rfl rfl ?_
  refine g_aload_n (q := 1167) dL_law_1166 rfl rfl ?_
  refine g_iload_n (q := 1168) dL_law_1167 rfl rfl ?_
  refine g_iconst (q := 1169) dL_law_1168 rfl ?_
  refine g_iadd (q := 1170) dL_law_1169 rfl ?_
  refine g_sld (q := 1171) hi0 hiL (by omega) (by omega) dL_law_1170 rfl ?_
  refine g_callV (q := 1174) lL_152 mX11_forces nX11_forces rfl (x_forces 0 sh _ S C.1.1 (by omega) (sv_i xs (i + 1))) (S.at _ rfl) rfl rfl shLe.rf (rmL R (by decide)) (Nat.le_of_ble_eq_true rfl) dL_law_1171 rfl rfl (kI fun r c1 hp => ?_)
  obtain ⟨a1, X1, f1⟩ := hp
  obtain ⟨C1, e1, e2⟩ := C.k X1 (f1.g C.1.1.qc)
  have M1 := M.cl C1.L e1
  have J1 := J.cl e1 e2
  refine g_aload_n (q := 1175) dL_law_1174 rfl rfl ?_
  refine g_aload_n (q := 1176) dL_law_1175 rfl rfl ?_
  refine g_iload_n (q := 1177) dL_law_1176 rfl rfl ?_
  refine g_iconst (q := 1178) dL_law_1177 rfl ?_
  refine g_iadd (q := 1179) dL_law_1178 rfl ?_
  refine g_sld (q := 1180) hi0 hiL (by omega) (by omega) dL_law_1179 rfl ?_
  refine g_callV (q := 1183) lL_155 mX12_forces nX12_forces rfl (tw_forces 0 sh _ S M1.1.1.md (sv_i xs (i + 1))) (S.at _ rfl) rfl rfl shLe.rf (rmL R (by decide)) (Nat.le_of_ble_eq_true rfl) dL_law_1180 rfl rfl (kI fun r2 c2 hp => ?_)
  obtain ⟨a2, f2⟩ := hp
  have e : r = r2 := orE (Q := fun x => fcS β s.2.2 _ s.1 x) (fun x y a b => fcS.uni a b) a1 a2
  refine g_icmp_eq (q := 1186) (tg := 1490) dL_law_1183 (by decide) rfl (fun c_1183 => ?_) (fun c_1183 => ?_)
  · exact kk sh c2 ⟨b, o, β, s, n, pl, q, N, hi, bi, si, sz, bt, vl, tn, (C1.r (f2.L M1.L) f2.rf').up (by omega) (by omega), M1.k f2, J1.k f2, R⟩
  · exact absurd (by rw [e]) c_1183
theorem L_best (hL : L ≤ 3072) (hi0 : 0 ≤ i) (hiL : i + 6 ≤ (L : Int)) (I : INV sh ct (4 * i)) (kk : ∀ sh2 ct2, INV sh2 ct2 (4 * (i + 6)) → G (KL nm b0 L xs) 1490 [some (.inr (.inr (-11))), some (.inr (.inr 0)), some (.inr (.inr 92)), some (.inl i)] [] sh2 ct2) : G (KL nm b0 L xs) 1188 [some (.inr (.inr (-11))), some (.inr (.inr 0)), some (.inr (.inr 92)), some (.inl i)] [] sh ct := by
  obtain ⟨b, o, β, s, n, pl, q, N, hi, bi, si, sz, bt, vl, tn, C, M, J, R⟩ := I
  have S := R.1
  refine g_aload_n (q := 1189) dL_law_1188 rfl rfl ?_
  refine g_aload_n (q := 1190) dL_law_1189 rfl rfl ?_
  refine g_iload_n (q := 1191) dL_law_1190 rfl rfl ?_
  refine g_iconst (q := 1192) dL_law_1191 rfl ?_
  refine g_iadd (q := 1193) dL_law_1192 rfl ?_
  refine g_sld (q := 1194) hi0 hiL (by omega) (by omega) dL_law_1193 rfl ?_
  refine g_callV (q := 1197) lL_156 mX11_best nX11_best rfl (x_best 0 sh _ S C.1.1 (by omega) (sv_i xs (i + 1))) (S.at _ rfl) rfl rfl shLe.rf (rmL R (by decide)) (Nat.le_of_ble_eq_true rfl) dL_law_1194 rfl rfl (kI fun r c1 hp => ?_)
  obtain ⟨a1, X1, f1⟩ := hp
  obtain ⟨C1, e1, e2⟩ := C.k X1 (f1.g C.1.1.qc)
  have M1 := M.cl C1.L e1
  have J1 := J.cl e1 e2
  refine g_aload_n (q := 1198) dL_law_1197 rfl rfl ?_
  refine g_aload_n (q := 1199) dL_law_1198 rfl rfl ?_
  refine g_iload_n (q := 1200) dL_law_1199 rfl rfl ?_
  refine g_iconst (q := 1201) dL_law_1200 rfl ?_
  refine g_iadd (q := 1202) dL_law_1201 rfl ?_
  refine g_sld (q := 1203) hi0 hiL (by omega) (by omega) dL_law_1202 rfl ?_
  refine g_callV (q := 1206) lL_159 mX12_best nX12_best rfl (tw_best 0 sh _ S M1.1.1.md (sv_i xs (i + 1))) (S.at _ rfl) rfl rfl shLe.rf (rmL R (by decide)) (Nat.le_of_ble_eq_true rfl) dL_law_1203 rfl rfl (kI fun r2 c2 hp => ?_)
  obtain ⟨a2, f2⟩ := hp
  have e : r = r2 := qBest.uni a1 a2
  refine g_icmp_eq (q := 1209) (tg := 1490) dL_law_1206 (by decide) rfl (fun c_1206 => ?_) (fun c_1206 => ?_)
  · exact kk sh c2 ⟨b, o, β, s, n, pl, q, N, hi, bi, si, sz, bt, vl, tn, (C1.r (f2.L M1.L) f2.rf').up (by omega) (by omega), M1.k f2, J1.k f2, R⟩
  · exact absurd (by rw [e]) c_1206
theorem L_power (hL : L ≤ 3072) (hi0 : 0 ≤ i) (hiL : i + 6 ≤ (L : Int)) (I : INV sh ct (4 * i)) (kk : ∀ sh2 ct2, INV sh2 ct2 (4 * (i + 6)) → G (KL nm b0 L xs) 1490 [some (.inr (.inr (-11))), some (.inr (.inr 0)), some (.inr (.inr 92)), some (.inl i)] [] sh2 ct2) : G (KL nm b0 L xs) 1211 [some (.inr (.inr (-11))), some (.inr (.inr 0)), some (.inr (.inr 92)), some (.inl i)] [] sh ct := by
  obtain ⟨b, o, β, s, n, pl, q, N, hi, bi, si, sz, bt, vl, tn, C, M, J, R⟩ := I
  have S := R.1
  refine g_aload_n (q := 1212) dL_law_1211 rfl rfl ?_
  refine g_callV (q := 1215) lL_160 mX11_power nX11_power rfl (x_power 0 sh _ S C.1.1 (by omega)) (S.at _ rfl) rfl rfl shLe.rf (rmL R (by decide)) (Nat.le_of_ble_eq_true rfl) dL_law_1212 rfl rfl (kI fun r c1 hp => ?_)
  obtain ⟨a1, X1, f1⟩ := hp
  obtain ⟨C1, e1, e2⟩ := C.k X1 (f1.g C.1.1.qc)
  have M1 := M.cl C1.L e1
  have J1 := J.cl e1 e2
  refine g_aload_n (q := 1216) dL_law_1215 rfl rfl ?_
  refine g_callV (q := 1219) lL_163 mX12_power nX12_power rfl (tw_power 0 sh _ S M1.1.1.md) (S.at _ rfl) rfl rfl shLe.rf (rmL R (by decide)) (Nat.le_of_ble_eq_true rfl) dL_law_1216 rfl rfl (kI fun r2 c2 hp => ?_)
  obtain ⟨a2, f2⟩ := hp
  have e : r = r2 := isSet.uni a1 a2
  refine g_icmp_eq (q := 1222) (tg := 1490) dL_law_1219 (by decide) rfl (fun c_1219 => ?_) (fun c_1219 => ?_)
  · exact kk sh c2 ⟨b, o, β, s, n, pl, q, N, hi, bi, si, sz, bt, vl, tn, (C1.r (f2.L M1.L) f2.rf').up (by omega) (by omega), M1.k f2, J1.k f2, R⟩
  · exact absurd (by rw [e]) c_1219
theorem L_stroke (hL : L ≤ 3072) (hi0 : 0 ≤ i) (hiL : i + 6 ≤ (L : Int)) (I : INV sh ct (4 * i)) (kk : ∀ sh2 ct2, INV sh2 ct2 (4 * (i + 6)) → G (KL nm b0 L xs) 1490 [some (.inr (.inr (-11))), some (.inr (.inr 0)), some (.inr (.inr 92)), some (.inl i)] [] sh2 ct2) : G (KL nm b0 L xs) 1224 [some (.inr (.inr (-11))), some (.inr (.inr 0)), some (.inr (.inr 92)), some (.inl i)] [] sh ct := by
  obtain ⟨b, o, β, s, n, pl, q, N, hi, bi, si, sz, bt, vl, tn, C, M, J, R⟩ := I
  have S := R.1
  refine g_aload_n (q := 1225) dL_law_1224 rfl rfl ?_
  refine g_aload_n (q := 1226) dL_law_1225 rfl rfl ?_
  refine g_iload_n (q := 1227) dL_law_1226 rfl rfl ?_
  refine g_iconst (q := 1228) dL_law_1227 rfl ?_
  refine g_iadd (q := 1229) dL_law_1228 rfl ?_
  refine g_sld (q := 1230) hi0 hiL (by omega) (by omega) dL_law_1229 rfl ?_
  refine g_aload_n (q := 1231) dL_law_1230 rfl rfl ?_
  refine g_iload_n (q := 1232) dL_law_1231 rfl rfl ?_
  refine g_iconst (q := 1233) dL_law_1232 rfl ?_
  refine g_iadd (q := 1234) dL_law_1233 rfl ?_
  refine g_sld (q := 1235) hi0 hiL (by omega) (by omega) dL_law_1234 rfl ?_
  refine g_callV (q := 1238) lL_164 mX11_stroke nX11_stroke rfl (x_stroke 0 sh _ S C.1.1 (by omega) (sv_i xs (i + 1)) (sv_i xs (i + 2))) (S.at _ rfl) rfl rfl shLe.rf (rmL R (by decide)) (Nat.le_of_ble_eq_true rfl) dL_law_1235 rfl rfl (kL fun r c1 hp => ?_)
  obtain ⟨a1, X1, f1⟩ := hp
  obtain ⟨C1, e1, e2⟩ := C.k X1 (f1.g C.1.1.qc)
  have M1 := M.cl C1.L e1
  have J1 := J.cl e1 e2
  refine g_aload_n (q := 1239) dL_law_1238 rfl rfl ?_
  refine g_aload_n (q := 1240) dL_law_1239 rfl rfl ?_
  refine g_iload_n (q := 1241) dL_law_1240 rfl rfl ?_
  refine g_iconst (q := 1242) dL_law_1241 rfl ?_
  refine g_iadd (q := 1243) dL_law_1242 rfl ?_
  refine g_sld (q := 1244) hi0 hiL (by omega) (by omega) dL_law_1243 rfl ?_
  refine g_aload_n (q := 1245) dL_law_1244 rfl rfl ?_
  refine g_iload_n (q := 1246) dL_law_1245 rfl rfl ?_
  refine g_iconst (q := 1247) dL_law_1246 rfl ?_
  refine g_iadd (q := 1248) dL_law_1247 rfl ?_
  refine g_sld (q := 1249) hi0 hiL (by omega) (by omega) dL_law_1248 rfl ?_
  refine g_callV (q := 1252) lL_167 mX12_stroke nX12_stroke rfl (tw_stroke 0 sh _ S M1.1.1.md (sv_i xs (i + 1)) (sv_i xs (i + 2))) (S.at _ rfl) rfl rfl shLe.rf (rmL R (by decide)) (Nat.le_of_ble_eq_true rfl) dL_law_1249 rfl rfl (kL fun r2 c2 hp => ?_)
  obtain ⟨a2, f2⟩ := hp
  have e : r = r2 := qStroke.uni a1 a2
  refine g_lcmp (q := 1253) dL_law_1252 rfl ?_
  refine g_if_eq (q := 1256) (tg := 1490) dL_law_1253 (by decide) rfl (fun c_1253 => ?_) (fun c_1253 => ?_)
  · exact kk sh c2 ⟨b, o, β, s, n, pl, q, N, hi, bi, si, sz, bt, vl, tn, (C1.r (f2.L M1.L) f2.rf').up (by omega) (by omega), M1.k f2, J1.k f2, R⟩
  · exact absurd (cmp_eq.mpr (by rw [e])) c_1253
theorem L_likeliest (hL : L ≤ 3072) (hi0 : 0 ≤ i) (hiL : i + 6 ≤ (L : Int)) (I : INV sh ct (4 * i)) (kk : ∀ sh2 ct2, INV sh2 ct2 (4 * (i + 6)) → G (KL nm b0 L xs) 1490 [some (.inr (.inr (-11))), some (.inr (.inr 0)), some (.inr (.inr 92)), some (.inl i)] [] sh2 ct2) : G (KL nm b0 L xs) 1258 [some (.inr (.inr (-11))), some (.inr (.inr 0)), some (.inr (.inr 92)), some (.inl i)] [] sh ct := by
  obtain ⟨b, o, β, s, n, pl, q, N, hi, bi, si, sz, bt, vl, tn, C, M, J, R⟩ := I
  have S := R.1
  refine g_aload_n (q := 1259) dL_law_1258 rfl rfl ?_
  refine g_callV (q := 1262) lL_168 mX11_likeliest nX11_likeliest rfl (x_likeliest 0 sh _ S C.1.1 (by omega)) (S.at _ rfl) rfl rfl shLe.rf (rmL R (by decide)) (Nat.le_of_ble_eq_true rfl) dL_law_1259 rfl rfl (kI fun r c1 hp => ?_)
  obtain ⟨a1, X1, f1⟩ := hp
  obtain ⟨C1, e1, e2⟩ := C.k X1 (f1.g C.1.1.qc)
  have M1 := M.cl C1.L e1
  have J1 := J.cl e1 e2
  refine g_aload_n (q := 1263) dL_law_1262 rfl rfl ?_
  refine g_callV (q := 1266) lL_171 mX12_likeliest nX12_likeliest rfl (tw_likeliest 0 sh _ S M1.1.1.md) (S.at _ rfl) rfl rfl shLe.rf (rmL R (by decide)) (Nat.le_of_ble_eq_true rfl) dL_law_1263 rfl rfl (kI fun r2 c2 hp => ?_)
  obtain ⟨a2, f2⟩ := hp
  have e : r = r2 := qLik.uni a1 a2
  refine g_icmp_eq (q := 1269) (tg := 1490) dL_law_1266 (by decide) rfl (fun c_1266 => ?_) (fun c_1266 => ?_)
  · exact kk sh c2 ⟨b, o, β, s, n, pl, q, N, hi, bi, si, sz, bt, vl, tn, (C1.r (f2.L M1.L) f2.rf').up (by omega) (by omega), M1.k f2, J1.k f2, R⟩
  · exact absurd (by rw [e]) c_1266
end
