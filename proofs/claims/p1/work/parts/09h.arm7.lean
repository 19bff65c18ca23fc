theorem dL_law_3455 : decode cL_law 3455 = .ok (.aload_n 1, 1) := by decide +kernel
theorem dL_law_3456 : decode cL_law 3456 = .ok (.aload_n 0, 1) := by decide +kernel
theorem dL_law_3457 : decode cL_law 3457 = .ok (.iload 5, 2) := by decide +kernel
theorem dL_law_3459 : decode cL_law 3459 = .ok (.iconst 1, 1) := by decide +kernel
theorem dL_law_3460 : decode cL_law 3460 = .ok (.iadd, 1) := by decide +kernel
theorem dL_law_3461 : decode cL_law 3461 = .ok (.iaload, 1) := by decide +kernel
theorem dL_law_3462 : decode cL_law 3462 = .ok (.aload_n 0, 1) := by decide +kernel
theorem dL_law_3463 : decode cL_law 3463 = .ok (.iload 5, 2) := by decide +kernel
theorem dL_law_3465 : decode cL_law 3465 = .ok (.iconst 2, 1) := by decide +kernel
theorem dL_law_3466 : decode cL_law 3466 = .ok (.iadd, 1) := by decide +kernel
theorem dL_law_3467 : decode cL_law 3467 = .ok (.iaload, 1) := by decide +kernel
theorem dL_law_3468 : decode cL_law 3468 = .ok (.ifCond .eq 7, 3) := by decide +kernel
theorem dL_law_3471 : decode cL_law 3471 = .ok (.iconst 1, 1) := by decide +kernel
theorem dL_law_3472 : decode cL_law 3472 = .ok (.goto 4, 3) := by decide +kernel
theorem dL_law_3475 : decode cL_law 3475 = .ok (.iconst 0, 1) := by decide +kernel
theorem dL_law_3476 : decode cL_law 3476 = .ok (.aload_n 3, 1) := by decide +kernel
theorem dL_law_3477 : decode cL_law 3477 = .ok (.invokestatic 379, 3) := by decide +kernel
theorem dL_law_3480 : decode cL_law 3480 = .ok (.istore 6, 2) := by decide +kernel
theorem dL_law_3482 : decode cL_law 3482 = .ok (.aload_n 2, 1) := by decide +kernel
theorem dL_law_3483 : decode cL_law 3483 = .ok (.aload_n 0, 1) := by decide +kernel
theorem dL_law_3484 : decode cL_law 3484 = .ok (.iload 5, 2) := by decide +kernel
theorem dL_law_3486 : decode cL_law 3486 = .ok (.iconst 1, 1) := by decide +kernel
theorem dL_law_3487 : decode cL_law 3487 = .ok (.iadd, 1) := by decide +kernel
theorem dL_law_3488 : decode cL_law 3488 = .ok (.iaload, 1) := by decide +kernel
theorem dL_law_3489 : decode cL_law 3489 = .ok (.aload_n 0, 1) := by decide +kernel
theorem dL_law_3490 : decode cL_law 3490 = .ok (.iload 5, 2) := by decide +kernel
theorem dL_law_3492 : decode cL_law 3492 = .ok (.iconst 2, 1) := by decide +kernel
theorem dL_law_3493 : decode cL_law 3493 = .ok (.iadd, 1) := by decide +kernel
theorem dL_law_3494 : decode cL_law 3494 = .ok (.iaload, 1) := by decide +kernel
theorem dL_law_3495 : decode cL_law 3495 = .ok (.ifCond .eq 7, 3) := by decide +kernel
theorem dL_law_3498 : decode cL_law 3498 = .ok (.iconst 1, 1) := by decide +kernel
theorem dL_law_3499 : decode cL_law 3499 = .ok (.goto 4, 3) := by decide +kernel
theorem dL_law_3502 : decode cL_law 3502 = .ok (.iconst 0, 1) := by decide +kernel
theorem dL_law_3503 : decode cL_law 3503 = .ok (.invokevirtual 381, 3) := by decide +kernel
theorem dL_law_3506 : decode cL_law 3506 = .ok (.istore 7, 2) := by decide +kernel
theorem dL_law_3508 : decode cL_law 3508 = .ok (.aload_n 2, 1) := by decide +kernel
theorem dL_law_3509 : decode cL_law 3509 = .ok (.invokevirtual 204, 3) := by decide +kernel
theorem dL_law_3512 : decode cL_law 3512 = .ok (.iload 6, 2) := by decide +kernel
theorem dL_law_3514 : decode cL_law 3514 = .ok (.if_icmp .eq 5, 3) := by decide +kernel
theorem dL_law_3519 : decode cL_law 3519 = .ok (.iload 6, 2) := by decide +kernel
theorem dL_law_3521 : decode cL_law 3521 = .ok (.ifCond .ne 22, 3) := by decide +kernel
theorem dL_law_3543 : decode cL_law 3543 = .ok (.goto 432, 3) := by decide +kernel
theorem dL_law_3546 : decode cL_law 3546 = .ok (.aload_n 1, 1) := by decide +kernel
theorem dL_law_3547 : decode cL_law 3547 = .ok (.aload_n 0, 1) := by decide +kernel
theorem dL_law_3548 : decode cL_law 3548 = .ok (.iload 5, 2) := by decide +kernel
theorem dL_law_3550 : decode cL_law 3550 = .ok (.iconst 1, 1) := by decide +kernel
theorem dL_law_3551 : decode cL_law 3551 = .ok (.iadd, 1) := by decide +kernel
theorem dL_law_3552 : decode cL_law 3552 = .ok (.iaload, 1) := by decide +kernel
theorem dL_law_3553 : decode cL_law 3553 = .ok (.aload_n 0, 1) := by decide +kernel
theorem dL_law_3554 : decode cL_law 3554 = .ok (.iload 5, 2) := by decide +kernel
theorem dL_law_3556 : decode cL_law 3556 = .ok (.iconst 2, 1) := by decide +kernel
theorem dL_law_3557 : decode cL_law 3557 = .ok (.iadd, 1) := by decide +kernel
theorem dL_law_3558 : decode cL_law 3558 = .ok (.iaload, 1) := by decide +kernel
theorem dL_law_3559 : decode cL_law 3559 = .ok (.aload_n 0, 1) := by decide +kernel
theorem dL_law_3560 : decode cL_law 3560 = .ok (.iload 5, 2) := by decide +kernel
theorem dL_law_3562 : decode cL_law 3562 = .ok (.iconst 3, 1) := by decide +kernel
theorem dL_law_3563 : decode cL_law 3563 = .ok (.iadd, 1) := by decide +kernel
theorem dL_law_3564 : decode cL_law 3564 = .ok (.iaload, 1) := by decide +kernel
theorem dL_law_3565 : decode cL_law 3565 = .ok (.aload_n 3, 1) := by decide +kernel
theorem dL_law_3566 : decode cL_law 3566 = .ok (.invokestatic 382, 3) := by decide +kernel
theorem dL_law_3569 : decode cL_law 3569 = .ok (.istore 6, 2) := by decide +kernel
theorem dL_law_3571 : decode cL_law 3571 = .ok (.aload_n 2, 1) := by decide +kernel
theorem dL_law_3572 : decode cL_law 3572 = .ok (.aload_n 0, 1) := by decide +kernel
theorem dL_law_3573 : decode cL_law 3573 = .ok (.iload 5, 2) := by decide +kernel
theorem dL_law_3575 : decode cL_law 3575 = .ok (.iconst 1, 1) := by decide +kernel
theorem dL_law_3576 : decode cL_law 3576 = .ok (.iadd, 1) := by decide +kernel
theorem dL_law_3577 : decode cL_law 3577 = .ok (.iaload, 1) := by decide +kernel
theorem dL_law_3578 : decode cL_law 3578 = .ok (.aload_n 0, 1) := by decide +kernel
theorem dL_law_3579 : decode cL_law 3579 = .ok (.iload 5, 2) := by decide +kernel
theorem dL_law_3581 : decode cL_law 3581 = .ok (.iconst 2, 1) := by decide +kernel
theorem dL_law_3582 : decode cL_law 3582 = .ok (.iadd, 1) := by decide +kernel
theorem dL_law_3583 : decode cL_law 3583 = .ok (.iaload, 1) := by decide +kernel
theorem dL_law_3584 : decode cL_law 3584 = .ok (.aload_n 0, 1) := by decide +kernel
theorem dL_law_3585 : decode cL_law 3585 = .ok (.iload 5, 2) := by decide +kernel
theorem dL_law_3587 : decode cL_law 3587 = .ok (.iconst 3, 1) := by decide +kernel
theorem dL_law_3588 : decode cL_law 3588 = .ok (.iadd, 1) := by decide +kernel
theorem dL_law_3589 : decode cL_law 3589 = .ok (.iaload, 1) := by decide +kernel
theorem dL_law_3590 : decode cL_law 3590 = .ok (.invokevirtual 384, 3) := by decide +kernel
theorem dL_law_3593 : decode cL_law 3593 = .ok (.istore 7, 2) := by decide +kernel
theorem dL_law_3595 : decode cL_law 3595 = .ok (.aload_n 2, 1) := by decide +kernel
theorem dL_law_3596 : decode cL_law 3596 = .ok (.invokevirtual 204, 3) := by decide +kernel
theorem dL_law_3599 : decode cL_law 3599 = .ok (.iload 6, 2) := by decide +kernel
theorem dL_law_3601 : decode cL_law 3601 = .ok (.if_icmp .eq 5, 3) := by decide +kernel
theorem dL_law_3606 : decode cL_law 3606 = .ok (.iload 6, 2) := by decide +kernel
theorem dL_law_3608 : decode cL_law 3608 = .ok (.ifCond .ne 15, 3) := by decide +kernel
theorem dL_law_3623 : decode cL_law 3623 = .ok (.goto 352, 3) := by decide +kernel
theorem dL_law_3626 : decode cL_law 3626 = .ok (.aload_n 1, 1) := by decide +kernel
theorem dL_law_3627 : decode cL_law 3627 = .ok (.aload_n 0, 1) := by decide +kernel
theorem dL_law_3628 : decode cL_law 3628 = .ok (.iload 5, 2) := by decide +kernel
theorem dL_law_3630 : decode cL_law 3630 = .ok (.iconst 1, 1) := by decide +kernel
theorem dL_law_3631 : decode cL_law 3631 = .ok (.iadd, 1) := by decide +kernel
theorem dL_law_3632 : decode cL_law 3632 = .ok (.iaload, 1) := by decide +kernel
theorem dL_law_3633 : decode cL_law 3633 = .ok (.aload_n 0, 1) := by decide +kernel
theorem dL_law_3634 : decode cL_law 3634 = .ok (.iload 5, 2) := by decide +kernel
theorem dL_law_3636 : decode cL_law 3636 = .ok (.iconst 2, 1) := by decide +kernel
theorem dL_law_3637 : decode cL_law 3637 = .ok (.iadd, 1) := by decide +kernel
theorem dL_law_3638 : decode cL_law 3638 = .ok (.iaload, 1) := by decide +kernel
theorem dL_law_3639 : decode cL_law 3639 = .ok (.aload_n 0, 1) := by decide +kernel
theorem dL_law_3640 : decode cL_law 3640 = .ok (.iload 5, 2) := by decide +kernel
theorem dL_law_3642 : decode cL_law 3642 = .ok (.iconst 3, 1) := by decide +kernel
theorem dL_law_3643 : decode cL_law 3643 = .ok (.iadd, 1) := by decide +kernel
theorem dL_law_3644 : decode cL_law 3644 = .ok (.iaload, 1) := by decide +kernel
theorem dL_law_3645 : decode cL_law 3645 = .ok (.aload_n 3, 1) := by decide +kernel
theorem dL_law_3646 : decode cL_law 3646 = .ok (.invokestatic 385, 3) := by decide +kernel
theorem dL_law_3649 : decode cL_law 3649 = .ok (.istore 6, 2) := by decide +kernel
theorem dL_law_3651 : decode cL_law 3651 = .ok (.aload_n 2, 1) := by decide +kernel
theorem dL_law_3652 : decode cL_law 3652 = .ok (.aload_n 0, 1) := by decide +kernel
theorem dL_law_3653 : decode cL_law 3653 = .ok (.iload 5, 2) := by decide +kernel
theorem dL_law_3655 : decode cL_law 3655 = .ok (.iconst 1, 1) := by decide +kernel
theorem dL_law_3656 : decode cL_law 3656 = .ok (.iadd, 1) := by decide +kernel
theorem dL_law_3657 : decode cL_law 3657 = .ok (.iaload, 1) := by decide +kernel
theorem dL_law_3658 : decode cL_law 3658 = .ok (.aload_n 0, 1) := by decide +kernel
theorem dL_law_3659 : decode cL_law 3659 = .ok (.iload 5, 2) := by decide +kernel
theorem dL_law_3661 : decode cL_law 3661 = .ok (.iconst 2, 1) := by decide +kernel
theorem dL_law_3662 : decode cL_law 3662 = .ok (.iadd, 1) := by decide +kernel
theorem dL_law_3663 : decode cL_law 3663 = .ok (.iaload, 1) := by decide +kernel
theorem dL_law_3664 : decode cL_law 3664 = .ok (.aload_n 0, 1) := by decide +kernel
theorem dL_law_3665 : decode cL_law 3665 = .ok (.iload 5, 2) := by decide +kernel
theorem dL_law_3667 : decode cL_law 3667 = .ok (.iconst 3, 1) := by decide +kernel
theorem dL_law_3668 : decode cL_law 3668 = .ok (.iadd, 1) := by decide +kernel
theorem dL_law_3669 : decode cL_law 3669 = .ok (.iaload, 1) := by decide +kernel
theorem dL_law_3670 : decode cL_law 3670 = .ok (.invokevirtual 387, 3) := by decide +kernel
theorem dL_law_3673 : decode cL_law 3673 = .ok (.istore 7, 2) := by decide +kernel
theorem dL_law_3675 : decode cL_law 3675 = .ok (.aload_n 2, 1) := by decide +kernel
theorem dL_law_3676 : decode cL_law 3676 = .ok (.invokevirtual 204, 3) := by decide +kernel
theorem dL_law_3679 : decode cL_law 3679 = .ok (.iload 6, 2) := by decide +kernel
theorem dL_law_3681 : decode cL_law 3681 = .ok (.if_icmp .eq 5, 3) := by decide +kernel
theorem dL_law_3686 : decode cL_law 3686 = .ok (.iload 6, 2) := by decide +kernel
theorem dL_law_3688 : decode cL_law 3688 = .ok (.ifCond .ne 15, 3) := by decide +kernel
theorem dL_law_3703 : decode cL_law 3703 = .ok (.goto 272, 3) := by decide +kernel
theorem dL_law_3706 : decode cL_law 3706 = .ok (.aload_n 1, 1) := by decide +kernel
theorem dL_law_3707 : decode cL_law 3707 = .ok (.aload_n 0, 1) := by decide +kernel
theorem dL_law_3708 : decode cL_law 3708 = .ok (.iload 5, 2) := by decide +kernel
theorem dL_law_3710 : decode cL_law 3710 = .ok (.iconst 1, 1) := by decide +kernel
theorem dL_law_3711 : decode cL_law 3711 = .ok (.iadd, 1) := by decide +kernel
theorem dL_law_3712 : decode cL_law 3712 = .ok (.iaload, 1) := by decide +kernel
theorem dL_law_3713 : decode cL_law 3713 = .ok (.aload_n 3, 1) := by decide +kernel
theorem dL_law_3714 : decode cL_law 3714 = .ok (.invokestatic 388, 3) := by decide +kernel
theorem dL_law_3717 : decode cL_law 3717 = .ok (.istore 6, 2) := by decide +kernel
theorem dL_law_3719 : decode cL_law 3719 = .ok (.aload_n 2, 1) := by decide +kernel
theorem dL_law_3720 : decode cL_law 3720 = .ok (.aload_n 0, 1) := by decide +kernel
theorem dL_law_3721 : decode cL_law 3721 = .ok (.iload 5, 2) := by decide +kernel
theorem dL_law_3723 : decode cL_law 3723 = .ok (.iconst 1, 1) := by decide +kernel
theorem dL_law_3724 : decode cL_law 3724 = .ok (.iadd, 1) := by decide +kernel
theorem dL_law_3725 : decode cL_law 3725 = .ok (.iaload, 1) := by decide +kernel
theorem dL_law_3726 : decode cL_law 3726 = .ok (.invokevirtual 390, 3) := by decide +kernel
theorem dL_law_3729 : decode cL_law 3729 = .ok (.istore 7, 2) := by decide +kernel
theorem dL_law_3731 : decode cL_law 3731 = .ok (.aload_n 2, 1) := by decide +kernel
theorem dL_law_3732 : decode cL_law 3732 = .ok (.invokevirtual 204, 3) := by decide +kernel
theorem dL_law_3735 : decode cL_law 3735 = .ok (.iload 6, 2) := by decide +kernel
theorem dL_law_3737 : decode cL_law 3737 = .ok (.if_icmp .eq 5, 3) := by decide +kernel
theorem dL_law_3742 : decode cL_law 3742 = .ok (.iload 6, 2) := by decide +kernel
theorem dL_law_3744 : decode cL_law 3744 = .ok (.ifCond .ne 15, 3) := by decide +kernel
theorem dL_law_3759 : decode cL_law 3759 = .ok (.goto 216, 3) := by decide +kernel
theorem dL_law_3762 : decode cL_law 3762 = .ok (.aload_n 1, 1) := by decide +kernel
theorem dL_law_3763 : decode cL_law 3763 = .ok (.aload_n 3, 1) := by decide +kernel
theorem dL_law_3764 : decode cL_law 3764 = .ok (.invokestatic 391, 3) := by decide +kernel
theorem dL_law_3767 : decode cL_law 3767 = .ok (.istore 6, 2) := by decide +kernel
theorem dL_law_3769 : decode cL_law 3769 = .ok (.aload_n 2, 1) := by decide +kernel
theorem dL_law_3770 : decode cL_law 3770 = .ok (.invokevirtual 393, 3) := by decide +kernel
theorem dL_law_3773 : decode cL_law 3773 = .ok (.istore 7, 2) := by decide +kernel
theorem dL_law_3775 : decode cL_law 3775 = .ok (.aload_n 2, 1) := by decide +kernel
theorem dL_law_3776 : decode cL_law 3776 = .ok (.invokevirtual 204, 3) := by decide +kernel
theorem dL_law_3779 : decode cL_law 3779 = .ok (.iload 6, 2) := by decide +kernel
theorem dL_law_3781 : decode cL_law 3781 = .ok (.if_icmp .eq 5, 3) := by decide +kernel
theorem dL_law_3786 : decode cL_law 3786 = .ok (.iload 6, 2) := by decide +kernel
theorem dL_law_3788 : decode cL_law 3788 = .ok (.ifCond .ne 15, 3) := by decide +kernel
theorem dL_law_3803 : decode cL_law 3803 = .ok (.goto 172, 3) := by decide +kernel
theorem dL_law_3806 : decode cL_law 3806 = .ok (.aload_n 1, 1) := by decide +kernel
theorem dL_law_3807 : decode cL_law 3807 = .ok (.aload_n 3, 1) := by decide +kernel
theorem dL_law_3808 : decode cL_law 3808 = .ok (.invokestatic 394, 3) := by decide +kernel
theorem dL_law_3811 : decode cL_law 3811 = .ok (.istore 6, 2) := by decide +kernel
theorem dL_law_3813 : decode cL_law 3813 = .ok (.aload_n 2, 1) := by decide +kernel
theorem dL_law_3814 : decode cL_law 3814 = .ok (.invokevirtual 396, 3) := by decide +kernel
theorem dL_law_3817 : decode cL_law 3817 = .ok (.istore 7, 2) := by decide +kernel
theorem dL_law_3819 : decode cL_law 3819 = .ok (.aload_n 2, 1) := by decide +kernel
theorem dL_law_3820 : decode cL_law 3820 = .ok (.invokevirtual 204, 3) := by decide +kernel
theorem dL_law_3823 : decode cL_law 3823 = .ok (.iload 6, 2) := by decide +kernel
theorem dL_law_3825 : decode cL_law 3825 = .ok (.if_icmp .eq 5, 3) := by decide +kernel
theorem dL_law_3830 : decode cL_law 3830 = .ok (.iload 6, 2) := by decide +kernel
theorem dL_law_3832 : decode cL_law 3832 = .ok (.ifCond .ne 15, 3) := by decide +kernel
theorem dL_law_3847 : decode cL_law 3847 = .ok (.goto 128, 3) := by decide +kernel
theorem dL_law_3850 : decode cL_law 3850 = .ok (.aload_n 1, 1) := by decide +kernel
theorem dL_law_3851 : decode cL_law 3851 = .ok (.invokevirtual 397, 3) := by decide +kernel
theorem dL_law_3854 : decode cL_law 3854 = .ok (.aload_n 2, 1) := by decide +kernel
theorem dL_law_3855 : decode cL_law 3855 = .ok (.invokevirtual 400, 3) := by decide +kernel
theorem dL_law_3858 : decode cL_law 3858 = .ok (.if_icmp .eq 117, 3) := by decide +kernel
theorem dL_law_3863 : decode cL_law 3863 = .ok (.aload_n 1, 1) := by decide +kernel
theorem dL_law_3864 : decode cL_law 3864 = .ok (.aload_n 0, 1) := by decide +kernel
theorem dL_law_3865 : decode cL_law 3865 = .ok (.iload 5, 2) := by decide +kernel
theorem dL_law_3867 : decode cL_law 3867 = .ok (.iconst 1, 1) := by decide +kernel
theorem dL_law_3868 : decode cL_law 3868 = .ok (.iadd, 1) := by decide +kernel
theorem dL_law_3869 : decode cL_law 3869 = .ok (.iaload, 1) := by decide +kernel
theorem dL_law_3870 : decode cL_law 3870 = .ok (.aload_n 3, 1) := by decide +kernel
theorem dL_law_3871 : decode cL_law 3871 = .ok (.invokestatic 401, 3) := by decide +kernel
theorem dL_law_3874 : decode cL_law 3874 = .ok (.istore 6, 2) := by decide +kernel
theorem dL_law_3876 : decode cL_law 3876 = .ok (.aload_n 2, 1) := by decide +kernel
theorem dL_law_3877 : decode cL_law 3877 = .ok (.aload_n 0, 1) := by decide +kernel
theorem dL_law_3878 : decode cL_law 3878 = .ok (.iload 5, 2) := by decide +kernel
theorem dL_law_3880 : decode cL_law 3880 = .ok (.iconst 1, 1) := by decide +kernel
theorem dL_law_3881 : decode cL_law 3881 = .ok (.iadd, 1) := by decide +kernel
theorem dL_law_3882 : decode cL_law 3882 = .ok (.iaload, 1) := by decide +kernel
theorem dL_law_3883 : decode cL_law 3883 = .ok (.invokevirtual 403, 3) := by decide +kernel
theorem dL_law_3886 : decode cL_law 3886 = .ok (.istore 7, 2) := by decide +kernel
theorem dL_law_3888 : decode cL_law 3888 = .ok (.aload_n 2, 1) := by decide +kernel
theorem dL_law_3889 : decode cL_law 3889 = .ok (.invokevirtual 204, 3) := by decide +kernel
theorem dL_law_3892 : decode cL_law 3892 = .ok (.iload 6, 2) := by decide +kernel
theorem dL_law_3894 : decode cL_law 3894 = .ok (.if_icmp .eq 5, 3) := by decide +kernel
theorem dL_law_3899 : decode cL_law 3899 = .ok (.iload 6, 2) := by decide +kernel
theorem dL_law_3901 : decode cL_law 3901 = .ok (.ifCond .ne 15, 3) := by decide +kernel
theorem dL_law_3916 : decode cL_law 3916 = .ok (.goto 59, 3) := by decide +kernel
set_option maxHeartbeats 4000000 in
set_option maxRecDepth 100000 in
theorem p_a55 {p : Program} {e : Env} {s : State} {m : MethodId} {below : List Frame} {meth : Method} {c : Code} (l : Launch) (hst : l.stackTraces = false) {b : Nat} {xs : Nat → Int32} (hx : p.tables.exec = Jvm.exec) (hb : c.code = code) (hr : meth.sig.returnType = ret) (hml : c.maxLocals = 9) (hown : s.vm.findClass RL = some m.cls) (hts : ∀ w ∈ lw_tbl, w.before #[Value.ref b] s = true) (hlocks : meth.locks = false) (hX0 : va_X b 6 xs s s.heap) (hbl : b < s.heap.size) (hX : xT (fun q => s.heap.size ≤ q) s) (hN1 : va_Nc xIAE xIOB s) (hN2 : va_Nc xISE xIOB s) {D : va_G} {cI cJ cZ cMic cSrc cSt cAI cAJ cD : ClassId} {ad am : Nat → Nat} {N : Nat} {S : Nat → va_E} {ls : Array Slot} {H : Heap} {locs : List Loc} (hK : va_K D vwCl (CT cI cJ cZ cMic cSrc cSt cAI cAJ ++ [(cD, .double)]) s) (hN : 1586 ≤ N) (F : FR cI cJ cZ cMic cSrc cSt cAI cAJ ad S) (G : lG D ad N cI cJ cZ am (fun q => s.heap.size ≤ q) s.heap H locs S mS0) (hl : lv_has ls 9 [(5, .int 0), (4, .ref (am 99)), (3, .ref (am 98)), (2, .ref (am 0)), (1, .ref (ad 0)), (0, .ref b)]) : W p l e room_1 s m #[Value.ref b] below meth c H locs 1605 82603 (lw_Z below #[Value.ref b] s) (F0 m 3455 ls []) := by
  obtain ⟨hS0, hS1, hS2, hS3, hS4, hS5, hS6, hS432, hS478, hS480, hS656, hS658⟩ := F
  have E : cE p c cL_law s m #[Value.ref b] lw_tbl D RL (CT cI cJ cZ cMic cSrc cSt cAI cAJ ++ [(cD, .double)]) := ⟨hx, hb, hts, hown, hK⟩
  have hKm : va_K D vwCl (MT cI cJ cZ) s := hK.sub [0, 1, 2] rfl
  have hKb : ∀ t : State, s.vm.Alike t.vm → va_K D vwCl (CT cI cJ cZ cMic cSrc cSt cAI cAJ ++ [(cD, .double)]) t := fun t h => va_K.moved h hK
  have hA : ∀ q : Nat, s.heap.size ≤ q → s.heap.size ≤ q := fun _ h => h
  refine lv_aload_n hx hb dL_law_3455 rfl (lv_at hl 4 rfl) ?_
  refine lv_aload_n hx hb dL_law_3456 rfl (lv_at hl 5 rfl) ?_
  refine lv_iload hx hb dL_law_3457 (lv_at hl 0 rfl) ?_
  refine lv_iconst (v := 1) hx hb dL_law_3459 (by decide) ?_
  refine lv_iadd hx hb dL_law_3460 ?_
  refine lv_to (y := 1) (by decide +kernel) ?_
  refine va_sld hx hb hX0 hbl (Nat.not_le.mpr hbl) G.2.2 (i := 1) (vp_in_nI (n := 1) (N := 6) (by decide) (by decide)) dL_law_3461 ?_
  refine lv_to (y := xs 1) (congrArg xs (by decide)) ?_
  refine lv_aload_n hx hb dL_law_3462 rfl (lv_at hl 5 rfl) ?_
  refine lv_iload hx hb dL_law_3463 (lv_at hl 0 rfl) ?_
  refine lv_iconst (v := 2) hx hb dL_law_3465 (by decide) ?_
  refine lv_iadd hx hb dL_law_3466 ?_
  refine lv_to (y := 2) (by decide +kernel) ?_
  refine va_sld hx hb hX0 hbl (Nat.not_le.mpr hbl) G.2.2 (i := 2) (vp_in_nI (n := 2) (N := 6) (by decide) (by decide)) dL_law_3467 ?_
  refine lv_to (y := xs 2) (congrArg xs (by decide)) ?_
  refine lv_if_eq (tgt := 3475) hx hb dL_law_3468 (by decide) (fun c1 => ?_) (fun c1 => ?_)
  · refine lv_iconst (v := 0) hx hb dL_law_3475 (by decide) ?_
    refine lv_aload_n hx hb dL_law_3476 rfl (lv_at hl 2 rfl) ?_
    refine l_w (As := [.ref (ad 0), .int (xs 1), .int 0, .ref (am 98)]) (rest := []) E G hA hX hN1 hN2 (fun _ _ h _ _ k => va_Nc.moved h k) rfl hml (w_setOn l hst D _ ad N S (sc := 478) (Nat.lt_of_lt_of_le (by decide) hN) hS0 rfl (Nat.lt_of_lt_of_le (by decide) hN) hS478 rfl (xs 1) 0 (am 98)) (vx_cwSW 4 hts (glA (L := [Cond.methodLink RL 379 yL_setOn, Cond.static yL_setOn, Cond.initialized RL]) (gl_in [(7, 138), (7, 139), (1, 0)] (by decide +kernel) (by decide +kernel)) ⟨(t_of [Cond.codeWith yL_setOn cL_setOn 5 (some .int) [(0, 17, 20, 21), (0, 17, 24, 13)]] [(7, 140)] (by decide +kernel) _ List.mem_cons_self), List.all_eq_true.mp (by decide +kernel : [Cond.codeWith yL_setOn cL_setOn 5 (some .int) [(0, 17, 20, 21), (0, 17, 24, 13)]].all goodWord = true) _ List.mem_cons_self⟩) rfl rfl rfl (by decide +kernel) ⟨Nat.le_of_ble_eq_true rfl, Nat.le_of_ble_eq_true rfl⟩) rfl hl.1 rfl (lv_room (Nat.le_of_ble_eq_true rfl)) dL_law_3477 ⟨Nat.le_of_ble_eq_true rfl, Nat.le_of_ble_eq_true rfl⟩ (fun r S1 H locs hq G => ?_)
    obtain ⟨hq1, hq2⟩ := hq
    rw [hq2] at G
    refine lv_to (y := 1) hq1 ?_
    refine lv_istore (lv' := [(6, .int 1), (5, .int 0), (4, .ref (am 99)), (3, .ref (am 98)), (2, .ref (am 0)), (1, .ref (ad 0)), (0, .ref b)]) hx hb dL_law_3480 hl (by decide) rfl (fun ls hl => ?_)
    refine lv_aload_n hx hb dL_law_3482 rfl (lv_at hl 4 rfl) ?_
    refine lv_aload_n hx hb dL_law_3483 rfl (lv_at hl 6 rfl) ?_
    refine lv_iload hx hb dL_law_3484 (lv_at hl 1 rfl) ?_
    refine lv_iconst (v := 1) hx hb dL_law_3486 (by decide) ?_
    refine lv_iadd hx hb dL_law_3487 ?_
    refine lv_to (y := 1) (by decide +kernel) ?_
    refine va_sld hx hb hX0 hbl (Nat.not_le.mpr hbl) G.2.2 (i := 1) (vp_in_nI (n := 1) (N := 6) (by decide) (by decide)) dL_law_3488 ?_
    refine lv_to (y := xs 1) (congrArg xs (by decide)) ?_
    refine lv_aload_n hx hb dL_law_3489 rfl (lv_at hl 6 rfl) ?_
    refine lv_iload hx hb dL_law_3490 (lv_at hl 1 rfl) ?_
    refine lv_iconst (v := 2) hx hb dL_law_3492 (by decide) ?_
    refine lv_iadd hx hb dL_law_3493 ?_
    refine lv_to (y := 2) (by decide +kernel) ?_
    refine va_sld hx hb hX0 hbl (Nat.not_le.mpr hbl) G.2.2 (i := 2) (vp_in_nI (n := 2) (N := 6) (by decide) (by decide)) dL_law_3494 ?_
    refine lv_to (y := xs 2) (congrArg xs (by decide)) ?_
    refine lv_if_eq (tgt := 3502) hx hb dL_law_3495 (by decide) (fun c2 => ?_) (fun c2 => ?_)
    · refine lv_iconst (v := 0) hx hb dL_law_3502 (by decide) ?_
      refine l_mi (As := [.int (xs 1), .int 0]) (rest := []) E G hA hKm hKb hX.2.2.2.2 hml (n_setOn l D cI cJ cZ am mS0 (xs 1) 0 rfl (fun _ => rfl)) (cwV 2 hts (glM (L := [Cond.methodLink RL 381 yX12_setOn, Cond.instanceMethod yX12_setOn, Cond.selects RX12 yX12_setOn yX12_setOn, Cond.initialized RX12]) (gl_in [(10, 169), (10, 170), (10, 171), (1, 14)] (by decide +kernel) (by decide +kernel)) ⟨(t_of [Cond.code yX12_setOn cX12_setOn 4 (some .boolean)] [(10, 172)] (by decide +kernel) _ List.mem_cons_self), List.all_eq_true.mp (by decide +kernel : [Cond.code yX12_setOn cX12_setOn 4 (some .boolean)].all goodWord = true) _ List.mem_cons_self⟩) rfl rfl rfl (by decide +kernel) ⟨Nat.le_of_ble_eq_true rfl, Nat.le_of_ble_eq_true rfl⟩) rfl hl.1 rfl (lv_room (Nat.le_of_ble_eq_true rfl)) dL_law_3503 ⟨Nat.le_of_ble_eq_true rfl, Nat.le_of_ble_eq_true rfl⟩ (fun r3 S1 H locs hq G => ?_)
      obtain ⟨hq1, hq2⟩ := hq
      rw [hq2] at G
      refine lv_to (y := 0) hq1 ?_
      refine lv_istore (lv' := [(7, .int 0), (6, .int 1), (5, .int 0), (4, .ref (am 99)), (3, .ref (am 98)), (2, .ref (am 0)), (1, .ref (ad 0)), (0, .ref b)]) hx hb dL_law_3506 hl (by decide) rfl (fun ls hl => ?_)
      refine lv_aload_n hx hb dL_law_3508 rfl (lv_at hl 5 rfl) ?_
      refine l_mi (As := []) (rest := []) E G hA hKm hKb hX.2.2.2.2 hml (m_thrown l D cI cJ cZ am (mi mS0 0 1)) (cwV 0 hts (glM (L := [Cond.methodLink RL 204 yX12_thrown, Cond.instanceMethod yX12_thrown, Cond.selects RX12 yX12_thrown yX12_thrown, Cond.initialized RX12]) (gl_in [(8, 65), (8, 66), (8, 67), (1, 14)] (by decide +kernel) (by decide +kernel)) ⟨(t_of [Cond.code yX12_thrown cX12_thrown 1 (some .int)] [(8, 68)] (by decide +kernel) _ List.mem_cons_self), List.all_eq_true.mp (by decide +kernel : [Cond.code yX12_thrown cX12_thrown 1 (some .int)].all goodWord = true) _ List.mem_cons_self⟩) rfl rfl rfl (by decide +kernel) ⟨Nat.le_of_ble_eq_true rfl, Nat.le_of_ble_eq_true rfl⟩) rfl hl.1 rfl (lv_room (Nat.le_of_ble_eq_true rfl)) dL_law_3509 ⟨Nat.le_of_ble_eq_true rfl, Nat.le_of_ble_eq_true rfl⟩ (fun r4 S1 H locs hq G => ?_)
      obtain ⟨hq1, hq2⟩ := hq
      rw [hq2] at G
      refine lv_to (y := 1) hq1 ?_
      refine lv_iload hx hb dL_law_3512 (lv_at hl 1 rfl) ?_
      refine lv_icmp_eq (tgt := 3519) hx hb dL_law_3514 (by decide) (fun c5 => ?_) (fun c5 => absurd (by decide +kernel) c5)
      refine lv_iload hx hb dL_law_3519 (lv_at hl 1 rfl) ?_
      refine lv_if_ne (tgt := 3543) hx hb dL_law_3521 (by decide) (fun c6 => ?_) (fun c6 => absurd c6 (by decide +kernel))
      refine lv_goto (tgt := 3975) hx hb dL_law_3543 (by decide) ?_
      refine lv_iinc (v := 6) (lv' := [(5, .int 6), (7, .int 0), (6, .int 1), (4, .ref (am 99)), (3, .ref (am 98)), (2, .ref (am 0)), (1, .ref (ad 0)), (0, .ref b)]) hx hb dL_law_3975 hl (k := 2) rfl (by decide +kernel) (by decide) rfl (fun ls hl => ?_)
      refine lv_goto (tgt := 28) hx hb dL_law_3978 (by decide) ?_
      refine lv_iload hx hb dL_law_28 (lv_at hl 0 rfl) ?_
      refine lv_aload_n hx hb dL_law_30 rfl (lv_at hl 7 rfl) ?_
      refine va_slen hx hb hX0 hbl (Nat.not_le.mpr hbl) G.2.2 dL_law_31 ?_
      refine lv_to (y := 6) (by decide) ?_
      refine lv_bipush (v := 6) hx hb dL_law_32 (by decide) ?_
      refine lv_isub hx hb dL_law_34 ?_
      refine lv_to (y := 0) (by decide +kernel) ?_
      refine lv_icmp_gt (tgt := 3981) hx hb dL_law_35 (by decide) (fun c7 => ?_) (fun c7 => absurd (by decide +kernel) c7)
      refine lv_iconst (v := 1) hx hb dL_law_3981 (by decide) ?_
      refine va_forget G.2.2.2.2 ?_
      refine W.widen (k := 600002) (n := 7302232) (Nat.le_of_ble_eq_true rfl) (Nat.le_of_ble_eq_true rfl) ?_
      exact lw_ret (d0 := s.drawn) (Drawn.sameBut.refl s.drawn lw_cs) hx hb hr hlocks dL_law_3982
    · refine lv_iconst (v := 1) hx hb dL_law_3498 (by decide) ?_
      refine lv_goto (tgt := 3503) hx hb dL_law_3499 (by decide) ?_
      refine l_mi (As := [.int (xs 1), .int 1]) (rest := []) E G hA hKm hKb hX.2.2.2.2 hml (n_setOn l D cI cJ cZ am mS0 (xs 1) 1 rfl (fun _ => rfl)) (cwV 2 hts (glM (L := [Cond.methodLink RL 381 yX12_setOn, Cond.instanceMethod yX12_setOn, Cond.selects RX12 yX12_setOn yX12_setOn, Cond.initialized RX12]) (gl_in [(10, 169), (10, 170), (10, 171), (1, 14)] (by decide +kernel) (by decide +kernel)) ⟨(t_of [Cond.code yX12_setOn cX12_setOn 4 (some .boolean)] [(10, 172)] (by decide +kernel) _ List.mem_cons_self), List.all_eq_true.mp (by decide +kernel : [Cond.code yX12_setOn cX12_setOn 4 (some .boolean)].all goodWord = true) _ List.mem_cons_self⟩) rfl rfl rfl (by decide +kernel) ⟨Nat.le_of_ble_eq_true rfl, Nat.le_of_ble_eq_true rfl⟩) rfl hl.1 rfl (lv_room (Nat.le_of_ble_eq_true rfl)) dL_law_3503 ⟨Nat.le_of_ble_eq_true rfl, Nat.le_of_ble_eq_true rfl⟩ (fun r8 S1 H locs hq G => ?_)
      obtain ⟨hq1, hq2⟩ := hq
      rw [hq2] at G
      refine lv_to (y := 0) hq1 ?_
      refine lv_istore (lv' := [(7, .int 0), (6, .int 1), (5, .int 0), (4, .ref (am 99)), (3, .ref (am 98)), (2, .ref (am 0)), (1, .ref (ad 0)), (0, .ref b)]) hx hb dL_law_3506 hl (by decide) rfl (fun ls hl => ?_)
      refine lv_aload_n hx hb dL_law_3508 rfl (lv_at hl 5 rfl) ?_
      refine l_mi (As := []) (rest := []) E G hA hKm hKb hX.2.2.2.2 hml (m_thrown l D cI cJ cZ am (mi mS0 0 1)) (cwV 0 hts (glM (L := [Cond.methodLink RL 204 yX12_thrown, Cond.instanceMethod yX12_thrown, Cond.selects RX12 yX12_thrown yX12_thrown, Cond.initialized RX12]) (gl_in [(8, 65), (8, 66), (8, 67), (1, 14)] (by decide +kernel) (by decide +kernel)) ⟨(t_of [Cond.code yX12_thrown cX12_thrown 1 (some .int)] [(8, 68)] (by decide +kernel) _ List.mem_cons_self), List.all_eq_true.mp (by decide +kernel : [Cond.code yX12_thrown cX12_thrown 1 (some .int)].all goodWord = true) _ List.mem_cons_self⟩) rfl rfl rfl (by decide +kernel) ⟨Nat.le_of_ble_eq_true rfl, Nat.le_of_ble_eq_true rfl⟩) rfl hl.1 rfl (lv_room (Nat.le_of_ble_eq_true rfl)) dL_law_3509 ⟨Nat.le_of_ble_eq_true rfl, Nat.le_of_ble_eq_true rfl⟩ (fun r9 S1 H locs hq G => ?_)
      obtain ⟨hq1, hq2⟩ := hq
      rw [hq2] at G
      refine lv_to (y := 1) hq1 ?_
      refine lv_iload hx hb dL_law_3512 (lv_at hl 1 rfl) ?_
      refine lv_icmp_eq (tgt := 3519) hx hb dL_law_3514 (by decide) (fun c10 => ?_) (fun c10 => absurd (by decide +kernel) c10)
      refine lv_iload hx hb dL_law_3519 (lv_at hl 1 rfl) ?_
      refine lv_if_ne (tgt := 3543) hx hb dL_law_3521 (by decide) (fun c11 => ?_) (fun c11 => absurd c11 (by decide +kernel))
      refine lv_goto (tgt := 3975) hx hb dL_law_3543 (by decide) ?_
      refine lv_iinc (v := 6) (lv' := [(5, .int 6), (7, .int 0), (6, .int 1), (4, .ref (am 99)), (3, .ref (am 98)), (2, .ref (am 0)), (1, .ref (ad 0)), (0, .ref b)]) hx hb dL_law_3975 hl (k := 2) rfl (by decide +kernel) (by decide) rfl (fun ls hl => ?_)
      refine lv_goto (tgt := 28) hx hb dL_law_3978 (by decide) ?_
      refine lv_iload hx hb dL_law_28 (lv_at hl 0 rfl) ?_
      refine lv_aload_n hx hb dL_law_30 rfl (lv_at hl 7 rfl) ?_
      refine va_slen hx hb hX0 hbl (Nat.not_le.mpr hbl) G.2.2 dL_law_31 ?_
      refine lv_to (y := 6) (by decide) ?_
      refine lv_bipush (v := 6) hx hb dL_law_32 (by decide) ?_
      refine lv_isub hx hb dL_law_34 ?_
      refine lv_to (y := 0) (by decide +kernel) ?_
      refine lv_icmp_gt (tgt := 3981) hx hb dL_law_35 (by decide) (fun c12 => ?_) (fun c12 => absurd (by decide +kernel) c12)
      refine lv_iconst (v := 1) hx hb dL_law_3981 (by decide) ?_
      refine va_forget G.2.2.2.2 ?_
      refine W.widen (k := 600002) (n := 7302232) (Nat.le_of_ble_eq_true rfl) (Nat.le_of_ble_eq_true rfl) ?_
      exact lw_ret (d0 := s.drawn) (Drawn.sameBut.refl s.drawn lw_cs) hx hb hr hlocks dL_law_3982
  · refine lv_iconst (v := 1) hx hb dL_law_3471 (by decide) ?_
    refine lv_goto (tgt := 3476) hx hb dL_law_3472 (by decide) ?_
    refine lv_aload_n hx hb dL_law_3476 rfl (lv_at hl 2 rfl) ?_
    refine l_w (As := [.ref (ad 0), .int (xs 1), .int 1, .ref (am 98)]) (rest := []) E G hA hX hN1 hN2 (fun _ _ h _ _ k => va_Nc.moved h k) rfl hml (w_setOn l hst D _ ad N S (sc := 478) (Nat.lt_of_lt_of_le (by decide) hN) hS0 rfl (Nat.lt_of_lt_of_le (by decide) hN) hS478 rfl (xs 1) 1 (am 98)) (vx_cwSW 4 hts (glA (L := [Cond.methodLink RL 379 yL_setOn, Cond.static yL_setOn, Cond.initialized RL]) (gl_in [(7, 138), (7, 139), (1, 0)] (by decide +kernel) (by decide +kernel)) ⟨(t_of [Cond.codeWith yL_setOn cL_setOn 5 (some .int) [(0, 17, 20, 21), (0, 17, 24, 13)]] [(7, 140)] (by decide +kernel) _ List.mem_cons_self), List.all_eq_true.mp (by decide +kernel : [Cond.codeWith yL_setOn cL_setOn 5 (some .int) [(0, 17, 20, 21), (0, 17, 24, 13)]].all goodWord = true) _ List.mem_cons_self⟩) rfl rfl rfl (by decide +kernel) ⟨Nat.le_of_ble_eq_true rfl, Nat.le_of_ble_eq_true rfl⟩) rfl hl.1 rfl (lv_room (Nat.le_of_ble_eq_true rfl)) dL_law_3477 ⟨Nat.le_of_ble_eq_true rfl, Nat.le_of_ble_eq_true rfl⟩ (fun r S1 H locs hq G => ?_)
    obtain ⟨hq1, hq2⟩ := hq
    rw [hq2] at G
    refine lv_to (y := 1) hq1 ?_
    refine lv_istore (lv' := [(6, .int 1), (5, .int 0), (4, .ref (am 99)), (3, .ref (am 98)), (2, .ref (am 0)), (1, .ref (ad 0)), (0, .ref b)]) hx hb dL_law_3480 hl (by decide) rfl (fun ls hl => ?_)
    refine lv_aload_n hx hb dL_law_3482 rfl (lv_at hl 4 rfl) ?_
    refine lv_aload_n hx hb dL_law_3483 rfl (lv_at hl 6 rfl) ?_
    refine lv_iload hx hb dL_law_3484 (lv_at hl 1 rfl) ?_
    refine lv_iconst (v := 1) hx hb dL_law_3486 (by decide) ?_
    refine lv_iadd hx hb dL_law_3487 ?_
    refine lv_to (y := 1) (by decide +kernel) ?_
    refine va_sld hx hb hX0 hbl (Nat.not_le.mpr hbl) G.2.2 (i := 1) (vp_in_nI (n := 1) (N := 6) (by decide) (by decide)) dL_law_3488 ?_
    refine lv_to (y := xs 1) (congrArg xs (by decide)) ?_
    refine lv_aload_n hx hb dL_law_3489 rfl (lv_at hl 6 rfl) ?_
    refine lv_iload hx hb dL_law_3490 (lv_at hl 1 rfl) ?_
    refine lv_iconst (v := 2) hx hb dL_law_3492 (by decide) ?_
    refine lv_iadd hx hb dL_law_3493 ?_
    refine lv_to (y := 2) (by decide +kernel) ?_
    refine va_sld hx hb hX0 hbl (Nat.not_le.mpr hbl) G.2.2 (i := 2) (vp_in_nI (n := 2) (N := 6) (by decide) (by decide)) dL_law_3494 ?_
    refine lv_to (y := xs 2) (congrArg xs (by decide)) ?_
    refine lv_if_eq (tgt := 3502) hx hb dL_law_3495 (by decide) (fun c13 => ?_) (fun c13 => ?_)
    · refine lv_iconst (v := 0) hx hb dL_law_3502 (by decide) ?_
      refine l_mi (As := [.int (xs 1), .int 0]) (rest := []) E G hA hKm hKb hX.2.2.2.2 hml (n_setOn l D cI cJ cZ am mS0 (xs 1) 0 rfl (fun _ => rfl)) (cwV 2 hts (glM (L := [Cond.methodLink RL 381 yX12_setOn, Cond.instanceMethod yX12_setOn, Cond.selects RX12 yX12_setOn yX12_setOn, Cond.initialized RX12]) (gl_in [(10, 169), (10, 170), (10, 171), (1, 14)] (by decide +kernel) (by decide +kernel)) ⟨(t_of [Cond.code yX12_setOn cX12_setOn 4 (some .boolean)] [(10, 172)] (by decide +kernel) _ List.mem_cons_self), List.all_eq_true.mp (by decide +kernel : [Cond.code yX12_setOn cX12_setOn 4 (some .boolean)].all goodWord = true) _ List.mem_cons_self⟩) rfl rfl rfl (by decide +kernel) ⟨Nat.le_of_ble_eq_true rfl, Nat.le_of_ble_eq_true rfl⟩) rfl hl.1 rfl (lv_room (Nat.le_of_ble_eq_true rfl)) dL_law_3503 ⟨Nat.le_of_ble_eq_true rfl, Nat.le_of_ble_eq_true rfl⟩ (fun r14 S1 H locs hq G => ?_)
      obtain ⟨hq1, hq2⟩ := hq
      rw [hq2] at G
      refine lv_to (y := 0) hq1 ?_
      refine lv_istore (lv' := [(7, .int 0), (6, .int 1), (5, .int 0), (4, .ref (am 99)), (3, .ref (am 98)), (2, .ref (am 0)), (1, .ref (ad 0)), (0, .ref b)]) hx hb dL_law_3506 hl (by decide) rfl (fun ls hl => ?_)
      refine lv_aload_n hx hb dL_law_3508 rfl (lv_at hl 5 rfl) ?_
      refine l_mi (As := []) (rest := []) E G hA hKm hKb hX.2.2.2.2 hml (m_thrown l D cI cJ cZ am (mi mS0 0 1)) (cwV 0 hts (glM (L := [Cond.methodLink RL 204 yX12_thrown, Cond.instanceMethod yX12_thrown, Cond.selects RX12 yX12_thrown yX12_thrown, Cond.initialized RX12]) (gl_in [(8, 65), (8, 66), (8, 67), (1, 14)] (by decide +kernel) (by decide +kernel)) ⟨(t_of [Cond.code yX12_thrown cX12_thrown 1 (some .int)] [(8, 68)] (by decide +kernel) _ List.mem_cons_self), List.all_eq_true.mp (by decide +kernel : [Cond.code yX12_thrown cX12_thrown 1 (some .int)].all goodWord = true) _ List.mem_cons_self⟩) rfl rfl rfl (by decide +kernel) ⟨Nat.le_of_ble_eq_true rfl, Nat.le_of_ble_eq_true rfl⟩) rfl hl.1 rfl (lv_room (Nat.le_of_ble_eq_true rfl)) dL_law_3509 ⟨Nat.le_of_ble_eq_true rfl, Nat.le_of_ble_eq_true rfl⟩ (fun r15 S1 H locs hq G => ?_)
      obtain ⟨hq1, hq2⟩ := hq
      rw [hq2] at G
      refine lv_to (y := 1) hq1 ?_
      refine lv_iload hx hb dL_law_3512 (lv_at hl 1 rfl) ?_
      refine lv_icmp_eq (tgt := 3519) hx hb dL_law_3514 (by decide) (fun c16 => ?_) (fun c16 => absurd (by decide +kernel) c16)
      refine lv_iload hx hb dL_law_3519 (lv_at hl 1 rfl) ?_
      refine lv_if_ne (tgt := 3543) hx hb dL_law_3521 (by decide) (fun c17 => ?_) (fun c17 => absurd c17 (by decide +kernel))
      refine lv_goto (tgt := 3975) hx hb dL_law_3543 (by decide) ?_
      refine lv_iinc (v := 6) (lv' := [(5, .int 6), (7, .int 0), (6, .int 1), (4, .ref (am 99)), (3, .ref (am 98)), (2, .ref (am 0)), (1, .ref (ad 0)), (0, .ref b)]) hx hb dL_law_3975 hl (k := 2) rfl (by decide +kernel) (by decide) rfl (fun ls hl => ?_)
      refine lv_goto (tgt := 28) hx hb dL_law_3978 (by decide) ?_
      refine lv_iload hx hb dL_law_28 (lv_at hl 0 rfl) ?_
      refine lv_aload_n hx hb dL_law_30 rfl (lv_at hl 7 rfl) ?_
      refine va_slen hx hb hX0 hbl (Nat.not_le.mpr hbl) G.2.2 dL_law_31 ?_
      refine lv_to (y := 6) (by decide) ?_
      refine lv_bipush (v := 6) hx hb dL_law_32 (by decide) ?_
      refine lv_isub hx hb dL_law_34 ?_
      refine lv_to (y := 0) (by decide +kernel) ?_
      refine lv_icmp_gt (tgt := 3981) hx hb dL_law_35 (by decide) (fun c18 => ?_) (fun c18 => absurd (by decide +kernel) c18)
      refine lv_iconst (v := 1) hx hb dL_law_3981 (by decide) ?_
      refine va_forget G.2.2.2.2 ?_
      refine W.widen (k := 600002) (n := 7302232) (Nat.le_of_ble_eq_true rfl) (Nat.le_of_ble_eq_true rfl) ?_
      exact lw_ret (d0 := s.drawn) (Drawn.sameBut.refl s.drawn lw_cs) hx hb hr hlocks dL_law_3982
    · refine lv_iconst (v := 1) hx hb dL_law_3498 (by decide) ?_
      refine lv_goto (tgt := 3503) hx hb dL_law_3499 (by decide) ?_
      refine l_mi (As := [.int (xs 1), .int 1]) (rest := []) E G hA hKm hKb hX.2.2.2.2 hml (n_setOn l D cI cJ cZ am mS0 (xs 1) 1 rfl (fun _ => rfl)) (cwV 2 hts (glM (L := [Cond.methodLink RL 381 yX12_setOn, Cond.instanceMethod yX12_setOn, Cond.selects RX12 yX12_setOn yX12_setOn, Cond.initialized RX12]) (gl_in [(10, 169), (10, 170), (10, 171), (1, 14)] (by decide +kernel) (by decide +kernel)) ⟨(t_of [Cond.code yX12_setOn cX12_setOn 4 (some .boolean)] [(10, 172)] (by decide +kernel) _ List.mem_cons_self), List.all_eq_true.mp (by decide +kernel : [Cond.code yX12_setOn cX12_setOn 4 (some .boolean)].all goodWord = true) _ List.mem_cons_self⟩) rfl rfl rfl (by decide +kernel) ⟨Nat.le_of_ble_eq_true rfl, Nat.le_of_ble_eq_true rfl⟩) rfl hl.1 rfl (lv_room (Nat.le_of_ble_eq_true rfl)) dL_law_3503 ⟨Nat.le_of_ble_eq_true rfl, Nat.le_of_ble_eq_true rfl⟩ (fun r19 S1 H locs hq G => ?_)
      obtain ⟨hq1, hq2⟩ := hq
      rw [hq2] at G
      refine lv_to (y := 0) hq1 ?_
      refine lv_istore (lv' := [(7, .int 0), (6, .int 1), (5, .int 0), (4, .ref (am 99)), (3, .ref (am 98)), (2, .ref (am 0)), (1, .ref (ad 0)), (0, .ref b)]) hx hb dL_law_3506 hl (by decide) rfl (fun ls hl => ?_)
      refine lv_aload_n hx hb dL_law_3508 rfl (lv_at hl 5 rfl) ?_
      refine l_mi (As := []) (rest := []) E G hA hKm hKb hX.2.2.2.2 hml (m_thrown l D cI cJ cZ am (mi mS0 0 1)) (cwV 0 hts (glM (L := [Cond.methodLink RL 204 yX12_thrown, Cond.instanceMethod yX12_thrown, Cond.selects RX12 yX12_thrown yX12_thrown, Cond.initialized RX12]) (gl_in [(8, 65), (8, 66), (8, 67), (1, 14)] (by decide +kernel) (by decide +kernel)) ⟨(t_of [Cond.code yX12_thrown cX12_thrown 1 (some .int)] [(8, 68)] (by decide +kernel) _ List.mem_cons_self), List.all_eq_true.mp (by decide +kernel : [Cond.code yX12_thrown cX12_thrown 1 (some .int)].all goodWord = true) _ List.mem_cons_self⟩) rfl rfl rfl (by decide +kernel) ⟨Nat.le_of_ble_eq_true rfl, Nat.le_of_ble_eq_true rfl⟩) rfl hl.1 rfl (lv_room (Nat.le_of_ble_eq_true rfl)) dL_law_3509 ⟨Nat.le_of_ble_eq_true rfl, Nat.le_of_ble_eq_true rfl⟩ (fun r20 S1 H locs hq G => ?_)
      obtain ⟨hq1, hq2⟩ := hq
      rw [hq2] at G
      refine lv_to (y := 1) hq1 ?_
      refine lv_iload hx hb dL_law_3512 (lv_at hl 1 rfl) ?_
      refine lv_icmp_eq (tgt := 3519) hx hb dL_law_3514 (by decide) (fun c21 => ?_) (fun c21 => absurd (by decide +kernel) c21)
      refine lv_iload hx hb dL_law_3519 (lv_at hl 1 rfl) ?_
      refine lv_if_ne (tgt := 3543) hx hb dL_law_3521 (by decide) (fun c22 => ?_) (fun c22 => absurd c22 (by decide +kernel))
      refine lv_goto (tgt := 3975) hx hb dL_law_3543 (by decide) ?_
      refine lv_iinc (v := 6) (lv' := [(5, .int 6), (7, .int 0), (6, .int 1), (4, .ref (am 99)), (3, .ref (am 98)), (2, .ref (am 0)), (1, .ref (ad 0)), (0, .ref b)]) hx hb dL_law_3975 hl (k := 2) rfl (by decide +kernel) (by decide) rfl (fun ls hl => ?_)
      refine lv_goto (tgt := 28) hx hb dL_law_3978 (by decide) ?_
      refine lv_iload hx hb dL_law_28 (lv_at hl 0 rfl) ?_
      refine lv_aload_n hx hb dL_law_30 rfl (lv_at hl 7 rfl) ?_
      refine va_slen hx hb hX0 hbl (Nat.not_le.mpr hbl) G.2.2 dL_law_31 ?_
      refine lv_to (y := 6) (by decide) ?_
      refine lv_bipush (v := 6) hx hb dL_law_32 (by decide) ?_
      refine lv_isub hx hb dL_law_34 ?_
      refine lv_to (y := 0) (by decide +kernel) ?_
      refine lv_icmp_gt (tgt := 3981) hx hb dL_law_35 (by decide) (fun c23 => ?_) (fun c23 => absurd (by decide +kernel) c23)
      refine lv_iconst (v := 1) hx hb dL_law_3981 (by decide) ?_
      refine va_forget G.2.2.2.2 ?_
      refine W.widen (k := 600002) (n := 7302232) (Nat.le_of_ble_eq_true rfl) (Nat.le_of_ble_eq_true rfl) ?_
      exact lw_ret (d0 := s.drawn) (Drawn.sameBut.refl s.drawn lw_cs) hx hb hr hlocks dL_law_3982
set_option maxHeartbeats 4000000 in
set_option maxRecDepth 100000 in
theorem p_a56 {p : Program} {e : Env} {s : State} {m : MethodId} {below : List Frame} {meth : Method} {c : Code} (l : Launch) (hst : l.stackTraces = false) {b : Nat} {xs : Nat → Int32} (hx : p.tables.exec = Jvm.exec) (hb : c.code = code) (hr : meth.sig.returnType = ret) (hml : c.maxLocals = 9) (hown : s.vm.findClass RL = some m.cls) (hts : ∀ w ∈ lw_tbl, w.before #[Value.ref b] s = true) (hlocks : meth.locks = false) (hX0 : va_X b 6 xs s s.heap) (hbl : b < s.heap.size) (hX : xT (fun q => s.heap.size ≤ q) s) (hN1 : va_Nc xIAE xIOB s) (hN2 : va_Nc xISE xIOB s) {D : va_G} {cI cJ cZ cMic cSrc cSt cAI cAJ cD : ClassId} {ad am : Nat → Nat} {N : Nat} {S : Nat → va_E} {ls : Array Slot} {H : Heap} {locs : List Loc} (hK : va_K D vwCl (CT cI cJ cZ cMic cSrc cSt cAI cAJ ++ [(cD, .double)]) s) (hN : 1586 ≤ N) (F : FR cI cJ cZ cMic cSrc cSt cAI cAJ ad S) (G : lG D ad N cI cJ cZ am (fun q => s.heap.size ≤ q) s.heap H locs S mS0) (hl : lv_has ls 9 [(5, .int 0), (4, .ref (am 99)), (3, .ref (am 98)), (2, .ref (am 0)), (1, .ref (ad 0)), (0, .ref b)]) : W p l e room_1 s m #[Value.ref b] below meth c H locs 1605 82603 (lw_Z below #[Value.ref b] s) (F0 m 3546 ls []) := by
  obtain ⟨hS0, hS1, hS2, hS3, hS4, hS5, hS6, hS432, hS478, hS480, hS656, hS658⟩ := F
  have E : cE p c cL_law s m #[Value.ref b] lw_tbl D RL (CT cI cJ cZ cMic cSrc cSt cAI cAJ ++ [(cD, .double)]) := ⟨hx, hb, hts, hown, hK⟩
  have hKm : va_K D vwCl (MT cI cJ cZ) s := hK.sub [0, 1, 2] rfl
  have hKb : ∀ t : State, s.vm.Alike t.vm → va_K D vwCl (CT cI cJ cZ cMic cSrc cSt cAI cAJ ++ [(cD, .double)]) t := fun t h => va_K.moved h hK
  have hA : ∀ q : Nat, s.heap.size ≤ q → s.heap.size ≤ q := fun _ h => h
  refine lv_aload_n hx hb dL_law_3546 rfl (lv_at hl 4 rfl) ?_
  refine lv_aload_n hx hb dL_law_3547 rfl (lv_at hl 5 rfl) ?_
  refine lv_iload hx hb dL_law_3548 (lv_at hl 0 rfl) ?_
  refine lv_iconst (v := 1) hx hb dL_law_3550 (by decide) ?_
  refine lv_iadd hx hb dL_law_3551 ?_
  refine lv_to (y := 1) (by decide +kernel) ?_
  refine va_sld hx hb hX0 hbl (Nat.not_le.mpr hbl) G.2.2 (i := 1) (vp_in_nI (n := 1) (N := 6) (by decide) (by decide)) dL_law_3552 ?_
  refine lv_to (y := xs 1) (congrArg xs (by decide)) ?_
  refine lv_aload_n hx hb dL_law_3553 rfl (lv_at hl 5 rfl) ?_
  refine lv_iload hx hb dL_law_3554 (lv_at hl 0 rfl) ?_
  refine lv_iconst (v := 2) hx hb dL_law_3556 (by decide) ?_
  refine lv_iadd hx hb dL_law_3557 ?_
  refine lv_to (y := 2) (by decide +kernel) ?_
  refine va_sld hx hb hX0 hbl (Nat.not_le.mpr hbl) G.2.2 (i := 2) (vp_in_nI (n := 2) (N := 6) (by decide) (by decide)) dL_law_3558 ?_
  refine lv_to (y := xs 2) (congrArg xs (by decide)) ?_
  refine lv_aload_n hx hb dL_law_3559 rfl (lv_at hl 5 rfl) ?_
  refine lv_iload hx hb dL_law_3560 (lv_at hl 0 rfl) ?_
  refine lv_iconst (v := 3) hx hb dL_law_3562 (by decide) ?_
  refine lv_iadd hx hb dL_law_3563 ?_
  refine lv_to (y := 3) (by decide +kernel) ?_
  refine va_sld hx hb hX0 hbl (Nat.not_le.mpr hbl) G.2.2 (i := 3) (vp_in_nI (n := 3) (N := 6) (by decide) (by decide)) dL_law_3564 ?_
  refine lv_to (y := xs 3) (congrArg xs (by decide)) ?_
  refine lv_aload_n hx hb dL_law_3565 rfl (lv_at hl 2 rfl) ?_
  refine l_w (As := [.ref (ad 0), .int (xs 1), .int (xs 2), .int (xs 3), .ref (am 98)]) (rest := []) E G hA hX hN1 hN2 (fun _ _ h _ _ k => va_Nc.moved h k) rfl hml (w_moveSource l hst D _ ad N S (sc := 478) (Nat.lt_of_lt_of_le (by decide) hN) hS0 rfl (Nat.lt_of_lt_of_le (by decide) hN) hS478 rfl (xs 1) (xs 2) (xs 3) (am 98)) (vx_cwSW 5 hts (glA (L := [Cond.methodLink RL 382 yL_moveSource, Cond.static yL_moveSource, Cond.initialized RL]) (gl_in [(7, 145), (7, 146), (1, 0)] (by decide +kernel) (by decide +kernel)) ⟨(t_of [Cond.codeWith yL_moveSource cL_moveSource 6 (some .int) [(0, 12, 15, 21), (0, 12, 19, 13), (0, 12, 23, 15)]] [(7, 147)] (by decide +kernel) _ List.mem_cons_self), List.all_eq_true.mp (by decide +kernel : [Cond.codeWith yL_moveSource cL_moveSource 6 (some .int) [(0, 12, 15, 21), (0, 12, 19, 13), (0, 12, 23, 15)]].all goodWord = true) _ List.mem_cons_self⟩) rfl rfl rfl (by decide +kernel) ⟨Nat.le_of_ble_eq_true rfl, Nat.le_of_ble_eq_true rfl⟩) rfl hl.1 rfl (lv_room (Nat.le_of_ble_eq_true rfl)) dL_law_3566 ⟨Nat.le_of_ble_eq_true rfl, Nat.le_of_ble_eq_true rfl⟩ (fun r S1 H locs hq G => ?_)
  obtain ⟨hq1, hq2⟩ := hq
  rw [hq2] at G
  refine lv_to (y := 1) hq1 ?_
  refine lv_istore (lv' := [(6, .int 1), (5, .int 0), (4, .ref (am 99)), (3, .ref (am 98)), (2, .ref (am 0)), (1, .ref (ad 0)), (0, .ref b)]) hx hb dL_law_3569 hl (by decide) rfl (fun ls hl => ?_)
  refine lv_aload_n hx hb dL_law_3571 rfl (lv_at hl 4 rfl) ?_
  refine lv_aload_n hx hb dL_law_3572 rfl (lv_at hl 6 rfl) ?_
  refine lv_iload hx hb dL_law_3573 (lv_at hl 1 rfl) ?_
  refine lv_iconst (v := 1) hx hb dL_law_3575 (by decide) ?_
  refine lv_iadd hx hb dL_law_3576 ?_
  refine lv_to (y := 1) (by decide +kernel) ?_
  refine va_sld hx hb hX0 hbl (Nat.not_le.mpr hbl) G.2.2 (i := 1) (vp_in_nI (n := 1) (N := 6) (by decide) (by decide)) dL_law_3577 ?_
  refine lv_to (y := xs 1) (congrArg xs (by decide)) ?_
  refine lv_aload_n hx hb dL_law_3578 rfl (lv_at hl 6 rfl) ?_
  refine lv_iload hx hb dL_law_3579 (lv_at hl 1 rfl) ?_
  refine lv_iconst (v := 2) hx hb dL_law_3581 (by decide) ?_
  refine lv_iadd hx hb dL_law_3582 ?_
  refine lv_to (y := 2) (by decide +kernel) ?_
  refine va_sld hx hb hX0 hbl (Nat.not_le.mpr hbl) G.2.2 (i := 2) (vp_in_nI (n := 2) (N := 6) (by decide) (by decide)) dL_law_3583 ?_
  refine lv_to (y := xs 2) (congrArg xs (by decide)) ?_
  refine lv_aload_n hx hb dL_law_3584 rfl (lv_at hl 6 rfl) ?_
  refine lv_iload hx hb dL_law_3585 (lv_at hl 1 rfl) ?_
  refine lv_iconst (v := 3) hx hb dL_law_3587 (by decide) ?_
  refine lv_iadd hx hb dL_law_3588 ?_
  refine lv_to (y := 3) (by decide +kernel) ?_
  refine va_sld hx hb hX0 hbl (Nat.not_le.mpr hbl) G.2.2 (i := 3) (vp_in_nI (n := 3) (N := 6) (by decide) (by decide)) dL_law_3589 ?_
  refine lv_to (y := xs 3) (congrArg xs (by decide)) ?_
  refine l_mi (As := [.int (xs 1), .int (xs 2), .int (xs 3)]) (rest := []) E G hA hKm hKb hX.2.2.2.2 hml (n_moveSource l D cI cJ cZ am mS0 (xs 1) (xs 2) (xs 3) rfl (fun _ => rfl)) (cwV 3 hts (glM (L := [Cond.methodLink RL 384 yX12_moveSource, Cond.instanceMethod yX12_moveSource, Cond.selects RX12 yX12_moveSource yX12_moveSource, Cond.initialized RX12]) (gl_in [(10, 173), (10, 174), (10, 175), (1, 14)] (by decide +kernel) (by decide +kernel)) ⟨(t_of [Cond.code yX12_moveSource cX12_moveSource 4 (some .int)] [(10, 176)] (by decide +kernel) _ List.mem_cons_self), List.all_eq_true.mp (by decide +kernel : [Cond.code yX12_moveSource cX12_moveSource 4 (some .int)].all goodWord = true) _ List.mem_cons_self⟩) rfl rfl rfl (by decide +kernel) ⟨Nat.le_of_ble_eq_true rfl, Nat.le_of_ble_eq_true rfl⟩) rfl hl.1 rfl (lv_room (Nat.le_of_ble_eq_true rfl)) dL_law_3590 ⟨Nat.le_of_ble_eq_true rfl, Nat.le_of_ble_eq_true rfl⟩ (fun r1 S1 H locs hq G => ?_)
  obtain ⟨hq1, hq2⟩ := hq
  rw [hq2] at G
  refine lv_to (y := 0) hq1 ?_
  refine lv_istore (lv' := [(7, .int 0), (6, .int 1), (5, .int 0), (4, .ref (am 99)), (3, .ref (am 98)), (2, .ref (am 0)), (1, .ref (ad 0)), (0, .ref b)]) hx hb dL_law_3593 hl (by decide) rfl (fun ls hl => ?_)
  refine lv_aload_n hx hb dL_law_3595 rfl (lv_at hl 5 rfl) ?_
  refine l_mi (As := []) (rest := []) E G hA hKm hKb hX.2.2.2.2 hml (m_thrown l D cI cJ cZ am (mi mS0 0 1)) (cwV 0 hts (glM (L := [Cond.methodLink RL 204 yX12_thrown, Cond.instanceMethod yX12_thrown, Cond.selects RX12 yX12_thrown yX12_thrown, Cond.initialized RX12]) (gl_in [(8, 65), (8, 66), (8, 67), (1, 14)] (by decide +kernel) (by decide +kernel)) ⟨(t_of [Cond.code yX12_thrown cX12_thrown 1 (some .int)] [(8, 68)] (by decide +kernel) _ List.mem_cons_self), List.all_eq_true.mp (by decide +kernel : [Cond.code yX12_thrown cX12_thrown 1 (some .int)].all goodWord = true) _ List.mem_cons_self⟩) rfl rfl rfl (by decide +kernel) ⟨Nat.le_of_ble_eq_true rfl, Nat.le_of_ble_eq_true rfl⟩) rfl hl.1 rfl (lv_room (Nat.le_of_ble_eq_true rfl)) dL_law_3596 ⟨Nat.le_of_ble_eq_true rfl, Nat.le_of_ble_eq_true rfl⟩ (fun r2 S1 H locs hq G => ?_)
  obtain ⟨hq1, hq2⟩ := hq
  rw [hq2] at G
  refine lv_to (y := 1) hq1 ?_
  refine lv_iload hx hb dL_law_3599 (lv_at hl 1 rfl) ?_
  refine lv_icmp_eq (tgt := 3606) hx hb dL_law_3601 (by decide) (fun c3 => ?_) (fun c3 => absurd (by decide +kernel) c3)
  refine lv_iload hx hb dL_law_3606 (lv_at hl 1 rfl) ?_
  refine lv_if_ne (tgt := 3623) hx hb dL_law_3608 (by decide) (fun c4 => ?_) (fun c4 => absurd c4 (by decide +kernel))
  refine lv_goto (tgt := 3975) hx hb dL_law_3623 (by decide) ?_
  refine lv_iinc (v := 6) (lv' := [(5, .int 6), (7, .int 0), (6, .int 1), (4, .ref (am 99)), (3, .ref (am 98)), (2, .ref (am 0)), (1, .ref (ad 0)), (0, .ref b)]) hx hb dL_law_3975 hl (k := 2) rfl (by decide +kernel) (by decide) rfl (fun ls hl => ?_)
  refine lv_goto (tgt := 28) hx hb dL_law_3978 (by decide) ?_
  refine lv_iload hx hb dL_law_28 (lv_at hl 0 rfl) ?_
  refine lv_aload_n hx hb dL_law_30 rfl (lv_at hl 7 rfl) ?_
  refine va_slen hx hb hX0 hbl (Nat.not_le.mpr hbl) G.2.2 dL_law_31 ?_
  refine lv_to (y := 6) (by decide) ?_
  refine lv_bipush (v := 6) hx hb dL_law_32 (by decide) ?_
  refine lv_isub hx hb dL_law_34 ?_
  refine lv_to (y := 0) (by decide +kernel) ?_
  refine lv_icmp_gt (tgt := 3981) hx hb dL_law_35 (by decide) (fun c5 => ?_) (fun c5 => absurd (by decide +kernel) c5)
  refine lv_iconst (v := 1) hx hb dL_law_3981 (by decide) ?_
  refine va_forget G.2.2.2.2 ?_
  refine W.widen (k := 600002) (n := 7302232) (Nat.le_of_ble_eq_true rfl) (Nat.le_of_ble_eq_true rfl) ?_
  exact lw_ret (d0 := s.drawn) (Drawn.sameBut.refl s.drawn lw_cs) hx hb hr hlocks dL_law_3982
set_option maxHeartbeats 4000000 in
set_option maxRecDepth 100000 in
theorem p_a57 {p : Program} {e : Env} {s : State} {m : MethodId} {below : List Frame} {meth : Method} {c : Code} (l : Launch) (hst : l.stackTraces = false) {b : Nat} {xs : Nat → Int32} (hx : p.tables.exec = Jvm.exec) (hb : c.code = code) (hr : meth.sig.returnType = ret) (hml : c.maxLocals = 9) (hown : s.vm.findClass RL = some m.cls) (hts : ∀ w ∈ lw_tbl, w.before #[Value.ref b] s = true) (hlocks : meth.locks = false) (hX0 : va_X b 6 xs s s.heap) (hbl : b < s.heap.size) (hX : xT (fun q => s.heap.size ≤ q) s) (hN1 : va_Nc xIAE xIOB s) (hN2 : va_Nc xISE xIOB s) {D : va_G} {cI cJ cZ cMic cSrc cSt cAI cAJ cD : ClassId} {ad am : Nat → Nat} {N : Nat} {S : Nat → va_E} {ls : Array Slot} {H : Heap} {locs : List Loc} (hK : va_K D vwCl (CT cI cJ cZ cMic cSrc cSt cAI cAJ ++ [(cD, .double)]) s) (hN : 1586 ≤ N) (F : FR cI cJ cZ cMic cSrc cSt cAI cAJ ad S) (G : lG D ad N cI cJ cZ am (fun q => s.heap.size ≤ q) s.heap H locs S mS0) (hl : lv_has ls 9 [(5, .int 0), (4, .ref (am 99)), (3, .ref (am 98)), (2, .ref (am 0)), (1, .ref (ad 0)), (0, .ref b)]) : W p l e room_1 s m #[Value.ref b] below meth c H locs 1605 82603 (lw_Z below #[Value.ref b] s) (F0 m 3626 ls []) := by
  obtain ⟨hS0, hS1, hS2, hS3, hS4, hS5, hS6, hS432, hS478, hS480, hS656, hS658⟩ := F
  have E : cE p c cL_law s m #[Value.ref b] lw_tbl D RL (CT cI cJ cZ cMic cSrc cSt cAI cAJ ++ [(cD, .double)]) := ⟨hx, hb, hts, hown, hK⟩
  have hKm : va_K D vwCl (MT cI cJ cZ) s := hK.sub [0, 1, 2] rfl
  have hKb : ∀ t : State, s.vm.Alike t.vm → va_K D vwCl (CT cI cJ cZ cMic cSrc cSt cAI cAJ ++ [(cD, .double)]) t := fun t h => va_K.moved h hK
  have hA : ∀ q : Nat, s.heap.size ≤ q → s.heap.size ≤ q := fun _ h => h
  refine lv_aload_n hx hb dL_law_3626 rfl (lv_at hl 4 rfl) ?_
  refine lv_aload_n hx hb dL_law_3627 rfl (lv_at hl 5 rfl) ?_
  refine lv_iload hx hb dL_law_3628 (lv_at hl 0 rfl) ?_
  refine lv_iconst (v := 1) hx hb dL_law_3630 (by decide) ?_
  refine lv_iadd hx hb dL_law_3631 ?_
  refine lv_to (y := 1) (by decide +kernel) ?_
  refine va_sld hx hb hX0 hbl (Nat.not_le.mpr hbl) G.2.2 (i := 1) (vp_in_nI (n := 1) (N := 6) (by decide) (by decide)) dL_law_3632 ?_
  refine lv_to (y := xs 1) (congrArg xs (by decide)) ?_
  refine lv_aload_n hx hb dL_law_3633 rfl (lv_at hl 5 rfl) ?_
  refine lv_iload hx hb dL_law_3634 (lv_at hl 0 rfl) ?_
  refine lv_iconst (v := 2) hx hb dL_law_3636 (by decide) ?_
  refine lv_iadd hx hb dL_law_3637 ?_
  refine lv_to (y := 2) (by decide +kernel) ?_
  refine va_sld hx hb hX0 hbl (Nat.not_le.mpr hbl) G.2.2 (i := 2) (vp_in_nI (n := 2) (N := 6) (by decide) (by decide)) dL_law_3638 ?_
  refine lv_to (y := xs 2) (congrArg xs (by decide)) ?_
  refine lv_aload_n hx hb dL_law_3639 rfl (lv_at hl 5 rfl) ?_
  refine lv_iload hx hb dL_law_3640 (lv_at hl 0 rfl) ?_
  refine lv_iconst (v := 3) hx hb dL_law_3642 (by decide) ?_
  refine lv_iadd hx hb dL_law_3643 ?_
  refine lv_to (y := 3) (by decide +kernel) ?_
  refine va_sld hx hb hX0 hbl (Nat.not_le.mpr hbl) G.2.2 (i := 3) (vp_in_nI (n := 3) (N := 6) (by decide) (by decide)) dL_law_3644 ?_
  refine lv_to (y := xs 3) (congrArg xs (by decide)) ?_
  refine lv_aload_n hx hb dL_law_3645 rfl (lv_at hl 2 rfl) ?_
  refine l_w (As := [.ref (ad 0), .int (xs 1), .int (xs 2), .int (xs 3), .ref (am 98)]) (rest := []) E G hA hX hN1 hN2 (fun _ _ h _ _ k => va_Nc.moved h k) rfl hml (w_setVelocity l hst D _ ad N S (sc := 478) (Nat.lt_of_lt_of_le (by decide) hN) hS0 rfl (Nat.lt_of_lt_of_le (by decide) hN) hS478 rfl (xs 1) (xs 2) (xs 3) (am 98)) (vx_cwSW 5 hts (glA (L := [Cond.methodLink RL 385 yL_setVelocity, Cond.static yL_setVelocity, Cond.initialized RL]) (gl_in [(7, 152), (7, 153), (1, 0)] (by decide +kernel) (by decide +kernel)) ⟨(t_of [Cond.codeWith yL_setVelocity cL_setVelocity 6 (some .int) [(0, 12, 15, 21), (0, 12, 19, 13), (0, 12, 23, 15)]] [(7, 154)] (by decide +kernel) _ List.mem_cons_self), List.all_eq_true.mp (by decide +kernel : [Cond.codeWith yL_setVelocity cL_setVelocity 6 (some .int) [(0, 12, 15, 21), (0, 12, 19, 13), (0, 12, 23, 15)]].all goodWord = true) _ List.mem_cons_self⟩) rfl rfl rfl (by decide +kernel) ⟨Nat.le_of_ble_eq_true rfl, Nat.le_of_ble_eq_true rfl⟩) rfl hl.1 rfl (lv_room (Nat.le_of_ble_eq_true rfl)) dL_law_3646 ⟨Nat.le_of_ble_eq_true rfl, Nat.le_of_ble_eq_true rfl⟩ (fun r S1 H locs hq G => ?_)
  obtain ⟨hq1, hq2⟩ := hq
  rw [hq2] at G
  refine lv_to (y := 1) hq1 ?_
  refine lv_istore (lv' := [(6, .int 1), (5, .int 0), (4, .ref (am 99)), (3, .ref (am 98)), (2, .ref (am 0)), (1, .ref (ad 0)), (0, .ref b)]) hx hb dL_law_3649 hl (by decide) rfl (fun ls hl => ?_)
  refine lv_aload_n hx hb dL_law_3651 rfl (lv_at hl 4 rfl) ?_
  refine lv_aload_n hx hb dL_law_3652 rfl (lv_at hl 6 rfl) ?_
  refine lv_iload hx hb dL_law_3653 (lv_at hl 1 rfl) ?_
  refine lv_iconst (v := 1) hx hb dL_law_3655 (by decide) ?_
  refine lv_iadd hx hb dL_law_3656 ?_
  refine lv_to (y := 1) (by decide +kernel) ?_
  refine va_sld hx hb hX0 hbl (Nat.not_le.mpr hbl) G.2.2 (i := 1) (vp_in_nI (n := 1) (N := 6) (by decide) (by decide)) dL_law_3657 ?_
  refine lv_to (y := xs 1) (congrArg xs (by decide)) ?_
  refine lv_aload_n hx hb dL_law_3658 rfl (lv_at hl 6 rfl) ?_
  refine lv_iload hx hb dL_law_3659 (lv_at hl 1 rfl) ?_
  refine lv_iconst (v := 2) hx hb dL_law_3661 (by decide) ?_
  refine lv_iadd hx hb dL_law_3662 ?_
  refine lv_to (y := 2) (by decide +kernel) ?_
  refine va_sld hx hb hX0 hbl (Nat.not_le.mpr hbl) G.2.2 (i := 2) (vp_in_nI (n := 2) (N := 6) (by decide) (by decide)) dL_law_3663 ?_
  refine lv_to (y := xs 2) (congrArg xs (by decide)) ?_
  refine lv_aload_n hx hb dL_law_3664 rfl (lv_at hl 6 rfl) ?_
  refine lv_iload hx hb dL_law_3665 (lv_at hl 1 rfl) ?_
  refine lv_iconst (v := 3) hx hb dL_law_3667 (by decide) ?_
  refine lv_iadd hx hb dL_law_3668 ?_
  refine lv_to (y := 3) (by decide +kernel) ?_
  refine va_sld hx hb hX0 hbl (Nat.not_le.mpr hbl) G.2.2 (i := 3) (vp_in_nI (n := 3) (N := 6) (by decide) (by decide)) dL_law_3669 ?_
  refine lv_to (y := xs 3) (congrArg xs (by decide)) ?_
  refine l_mi (As := [.int (xs 1), .int (xs 2), .int (xs 3)]) (rest := []) E G hA hKm hKb hX.2.2.2.2 hml (n_setVelocity l D cI cJ cZ am mS0 (xs 1) (xs 2) (xs 3) rfl (fun _ => rfl)) (cwV 3 hts (glM (L := [Cond.methodLink RL 387 yX12_setVelocity, Cond.instanceMethod yX12_setVelocity, Cond.selects RX12 yX12_setVelocity yX12_setVelocity, Cond.initialized RX12]) (gl_in [(10, 181), (10, 182), (10, 183), (1, 14)] (by decide +kernel) (by decide +kernel)) ⟨(t_of [Cond.code yX12_setVelocity cX12_setVelocity 4 (some .int)] [(10, 184)] (by decide +kernel) _ List.mem_cons_self), List.all_eq_true.mp (by decide +kernel : [Cond.code yX12_setVelocity cX12_setVelocity 4 (some .int)].all goodWord = true) _ List.mem_cons_self⟩) rfl rfl rfl (by decide +kernel) ⟨Nat.le_of_ble_eq_true rfl, Nat.le_of_ble_eq_true rfl⟩) rfl hl.1 rfl (lv_room (Nat.le_of_ble_eq_true rfl)) dL_law_3670 ⟨Nat.le_of_ble_eq_true rfl, Nat.le_of_ble_eq_true rfl⟩ (fun r1 S1 H locs hq G => ?_)
  obtain ⟨hq1, hq2⟩ := hq
  rw [hq2] at G
  refine lv_to (y := 0) hq1 ?_
  refine lv_istore (lv' := [(7, .int 0), (6, .int 1), (5, .int 0), (4, .ref (am 99)), (3, .ref (am 98)), (2, .ref (am 0)), (1, .ref (ad 0)), (0, .ref b)]) hx hb dL_law_3673 hl (by decide) rfl (fun ls hl => ?_)
  refine lv_aload_n hx hb dL_law_3675 rfl (lv_at hl 5 rfl) ?_
  refine l_mi (As := []) (rest := []) E G hA hKm hKb hX.2.2.2.2 hml (m_thrown l D cI cJ cZ am (mi mS0 0 1)) (cwV 0 hts (glM (L := [Cond.methodLink RL 204 yX12_thrown, Cond.instanceMethod yX12_thrown, Cond.selects RX12 yX12_thrown yX12_thrown, Cond.initialized RX12]) (gl_in [(8, 65), (8, 66), (8, 67), (1, 14)] (by decide +kernel) (by decide +kernel)) ⟨(t_of [Cond.code yX12_thrown cX12_thrown 1 (some .int)] [(8, 68)] (by decide +kernel) _ List.mem_cons_self), List.all_eq_true.mp (by decide +kernel : [Cond.code yX12_thrown cX12_thrown 1 (some .int)].all goodWord = true) _ List.mem_cons_self⟩) rfl rfl rfl (by decide +kernel) ⟨Nat.le_of_ble_eq_true rfl, Nat.le_of_ble_eq_true rfl⟩) rfl hl.1 rfl (lv_room (Nat.le_of_ble_eq_true rfl)) dL_law_3676 ⟨Nat.le_of_ble_eq_true rfl, Nat.le_of_ble_eq_true rfl⟩ (fun r2 S1 H locs hq G => ?_)
  obtain ⟨hq1, hq2⟩ := hq
  rw [hq2] at G
  refine lv_to (y := 1) hq1 ?_
  refine lv_iload hx hb dL_law_3679 (lv_at hl 1 rfl) ?_
  refine lv_icmp_eq (tgt := 3686) hx hb dL_law_3681 (by decide) (fun c3 => ?_) (fun c3 => absurd (by decide +kernel) c3)
  refine lv_iload hx hb dL_law_3686 (lv_at hl 1 rfl) ?_
  refine lv_if_ne (tgt := 3703) hx hb dL_law_3688 (by decide) (fun c4 => ?_) (fun c4 => absurd c4 (by decide +kernel))
  refine lv_goto (tgt := 3975) hx hb dL_law_3703 (by decide) ?_
  refine lv_iinc (v := 6) (lv' := [(5, .int 6), (7, .int 0), (6, .int 1), (4, .ref (am 99)), (3, .ref (am 98)), (2, .ref (am 0)), (1, .ref (ad 0)), (0, .ref b)]) hx hb dL_law_3975 hl (k := 2) rfl (by decide +kernel) (by decide) rfl (fun ls hl => ?_)
  refine lv_goto (tgt := 28) hx hb dL_law_3978 (by decide) ?_
  refine lv_iload hx hb dL_law_28 (lv_at hl 0 rfl) ?_
  refine lv_aload_n hx hb dL_law_30 rfl (lv_at hl 7 rfl) ?_
  refine va_slen hx hb hX0 hbl (Nat.not_le.mpr hbl) G.2.2 dL_law_31 ?_
  refine lv_to (y := 6) (by decide) ?_
  refine lv_bipush (v := 6) hx hb dL_law_32 (by decide) ?_
  refine lv_isub hx hb dL_law_34 ?_
  refine lv_to (y := 0) (by decide +kernel) ?_
  refine lv_icmp_gt (tgt := 3981) hx hb dL_law_35 (by decide) (fun c5 => ?_) (fun c5 => absurd (by decide +kernel) c5)
  refine lv_iconst (v := 1) hx hb dL_law_3981 (by decide) ?_
  refine va_forget G.2.2.2.2 ?_
  refine W.widen (k := 600002) (n := 7302232) (Nat.le_of_ble_eq_true rfl) (Nat.le_of_ble_eq_true rfl) ?_
  exact lw_ret (d0 := s.drawn) (Drawn.sameBut.refl s.drawn lw_cs) hx hb hr hlocks dL_law_3982
set_option maxHeartbeats 4000000 in
set_option maxRecDepth 100000 in
theorem p_a58 {p : Program} {e : Env} {s : State} {m : MethodId} {below : List Frame} {meth : Method} {c : Code} (l : Launch) (hst : l.stackTraces = false) {b : Nat} {xs : Nat → Int32} (hx : p.tables.exec = Jvm.exec) (hb : c.code = code) (hr : meth.sig.returnType = ret) (hml : c.maxLocals = 9) (hown : s.vm.findClass RL = some m.cls) (hts : ∀ w ∈ lw_tbl, w.before #[Value.ref b] s = true) (hlocks : meth.locks = false) (hX0 : va_X b 6 xs s s.heap) (hbl : b < s.heap.size) (hX : xT (fun q => s.heap.size ≤ q) s) (hN1 : va_Nc xIAE xIOB s) (hN2 : va_Nc xISE xIOB s) {D : va_G} {cI cJ cZ cMic cSrc cSt cAI cAJ cD : ClassId} {ad am : Nat → Nat} {N : Nat} {S : Nat → va_E} {ls : Array Slot} {H : Heap} {locs : List Loc} (hK : va_K D vwCl (CT cI cJ cZ cMic cSrc cSt cAI cAJ ++ [(cD, .double)]) s) (hN : 1586 ≤ N) (F : FR cI cJ cZ cMic cSrc cSt cAI cAJ ad S) (G : lG D ad N cI cJ cZ am (fun q => s.heap.size ≤ q) s.heap H locs S mS0) (hl : lv_has ls 9 [(5, .int 0), (4, .ref (am 99)), (3, .ref (am 98)), (2, .ref (am 0)), (1, .ref (ad 0)), (0, .ref b)]) : W p l e room_1 s m #[Value.ref b] below meth c H locs 1605 82603 (lw_Z below #[Value.ref b] s) (F0 m 3706 ls []) := by
  obtain ⟨hS0, hS1, hS2, hS3, hS4, hS5, hS6, hS432, hS478, hS480, hS656, hS658⟩ := F
  have E : cE p c cL_law s m #[Value.ref b] lw_tbl D RL (CT cI cJ cZ cMic cSrc cSt cAI cAJ ++ [(cD, .double)]) := ⟨hx, hb, hts, hown, hK⟩
  have hKm : va_K D vwCl (MT cI cJ cZ) s := hK.sub [0, 1, 2] rfl
  have hKb : ∀ t : State, s.vm.Alike t.vm → va_K D vwCl (CT cI cJ cZ cMic cSrc cSt cAI cAJ ++ [(cD, .double)]) t := fun t h => va_K.moved h hK
  have hA : ∀ q : Nat, s.heap.size ≤ q → s.heap.size ≤ q := fun _ h => h
  refine lv_aload_n hx hb dL_law_3706 rfl (lv_at hl 4 rfl) ?_
  refine lv_aload_n hx hb dL_law_3707 rfl (lv_at hl 5 rfl) ?_
  refine lv_iload hx hb dL_law_3708 (lv_at hl 0 rfl) ?_
  refine lv_iconst (v := 1) hx hb dL_law_3710 (by decide) ?_
  refine lv_iadd hx hb dL_law_3711 ?_
  refine lv_to (y := 1) (by decide +kernel) ?_
  refine va_sld hx hb hX0 hbl (Nat.not_le.mpr hbl) G.2.2 (i := 1) (vp_in_nI (n := 1) (N := 6) (by decide) (by decide)) dL_law_3712 ?_
  refine lv_to (y := xs 1) (congrArg xs (by decide)) ?_
  refine lv_aload_n hx hb dL_law_3713 rfl (lv_at hl 2 rfl) ?_
  refine l_w (As := [.ref (ad 0), .int (xs 1), .ref (am 98)]) (rest := []) E G hA hX hN1 hN2 (fun _ _ h _ _ k => va_Nc.moved h k) rfl hml (w_clean l hst D _ ad N S (sc := 478) (Nat.lt_of_lt_of_le (by decide) hN) hS0 rfl (Nat.lt_of_lt_of_le (by decide) hN) hS478 rfl (xs 1) (am 98)) (vx_cwSW 3 hts (glA (L := [Cond.methodLink RL 388 yL_clean, Cond.static yL_clean, Cond.initialized RL]) (gl_in [(7, 159), (7, 160), (1, 0)] (by decide +kernel) (by decide +kernel)) ⟨(t_of [Cond.codeWith yL_clean cL_clean 4 (some .int) [(0, 9, 12, 21), (0, 9, 15, 15)]] [(7, 161)] (by decide +kernel) _ List.mem_cons_self), List.all_eq_true.mp (by decide +kernel : [Cond.codeWith yL_clean cL_clean 4 (some .int) [(0, 9, 12, 21), (0, 9, 15, 15)]].all goodWord = true) _ List.mem_cons_self⟩) rfl rfl rfl (by decide +kernel) ⟨Nat.le_of_ble_eq_true rfl, Nat.le_of_ble_eq_true rfl⟩) rfl hl.1 rfl (lv_room (Nat.le_of_ble_eq_true rfl)) dL_law_3714 ⟨Nat.le_of_ble_eq_true rfl, Nat.le_of_ble_eq_true rfl⟩ (fun r S1 H locs hq G => ?_)
  obtain ⟨hq1, hq2⟩ := hq
  rw [hq2] at G
  refine lv_to (y := 1) hq1 ?_
  refine lv_istore (lv' := [(6, .int 1), (5, .int 0), (4, .ref (am 99)), (3, .ref (am 98)), (2, .ref (am 0)), (1, .ref (ad 0)), (0, .ref b)]) hx hb dL_law_3717 hl (by decide) rfl (fun ls hl => ?_)
  refine lv_aload_n hx hb dL_law_3719 rfl (lv_at hl 4 rfl) ?_
  refine lv_aload_n hx hb dL_law_3720 rfl (lv_at hl 6 rfl) ?_
  refine lv_iload hx hb dL_law_3721 (lv_at hl 1 rfl) ?_
  refine lv_iconst (v := 1) hx hb dL_law_3723 (by decide) ?_
  refine lv_iadd hx hb dL_law_3724 ?_
  refine lv_to (y := 1) (by decide +kernel) ?_
  refine va_sld hx hb hX0 hbl (Nat.not_le.mpr hbl) G.2.2 (i := 1) (vp_in_nI (n := 1) (N := 6) (by decide) (by decide)) dL_law_3725 ?_
  refine lv_to (y := xs 1) (congrArg xs (by decide)) ?_
  refine l_mi (As := [.int (xs 1)]) (rest := []) E G hA hKm hKb hX.2.2.2.2 hml (n_clean l D cI cJ cZ am mS0 (xs 1) rfl (fun _ => rfl)) (cwV 1 hts (glM (L := [Cond.methodLink RL 390 yX12_clean, Cond.instanceMethod yX12_clean, Cond.selects RX12 yX12_clean yX12_clean, Cond.initialized RX12]) (gl_in [(10, 185), (10, 186), (10, 187), (1, 14)] (by decide +kernel) (by decide +kernel)) ⟨(t_of [Cond.code yX12_clean cX12_clean 6 (some .int)] [(10, 188)] (by decide +kernel) _ List.mem_cons_self), List.all_eq_true.mp (by decide +kernel : [Cond.code yX12_clean cX12_clean 6 (some .int)].all goodWord = true) _ List.mem_cons_self⟩) rfl rfl rfl (by decide +kernel) ⟨Nat.le_of_ble_eq_true rfl, Nat.le_of_ble_eq_true rfl⟩) rfl hl.1 rfl (lv_room (Nat.le_of_ble_eq_true rfl)) dL_law_3726 ⟨Nat.le_of_ble_eq_true rfl, Nat.le_of_ble_eq_true rfl⟩ (fun r1 S1 H locs hq G => ?_)
  obtain ⟨hq1, hq2⟩ := hq
  rw [hq2] at G
  refine lv_to (y := 0) hq1 ?_
  refine lv_istore (lv' := [(7, .int 0), (6, .int 1), (5, .int 0), (4, .ref (am 99)), (3, .ref (am 98)), (2, .ref (am 0)), (1, .ref (ad 0)), (0, .ref b)]) hx hb dL_law_3729 hl (by decide) rfl (fun ls hl => ?_)
  refine lv_aload_n hx hb dL_law_3731 rfl (lv_at hl 5 rfl) ?_
  refine l_mi (As := []) (rest := []) E G hA hKm hKb hX.2.2.2.2 hml (m_thrown l D cI cJ cZ am (mi mS0 0 1)) (cwV 0 hts (glM (L := [Cond.methodLink RL 204 yX12_thrown, Cond.instanceMethod yX12_thrown, Cond.selects RX12 yX12_thrown yX12_thrown, Cond.initialized RX12]) (gl_in [(8, 65), (8, 66), (8, 67), (1, 14)] (by decide +kernel) (by decide +kernel)) ⟨(t_of [Cond.code yX12_thrown cX12_thrown 1 (some .int)] [(8, 68)] (by decide +kernel) _ List.mem_cons_self), List.all_eq_true.mp (by decide +kernel : [Cond.code yX12_thrown cX12_thrown 1 (some .int)].all goodWord = true) _ List.mem_cons_self⟩) rfl rfl rfl (by decide +kernel) ⟨Nat.le_of_ble_eq_true rfl, Nat.le_of_ble_eq_true rfl⟩) rfl hl.1 rfl (lv_room (Nat.le_of_ble_eq_true rfl)) dL_law_3732 ⟨Nat.le_of_ble_eq_true rfl, Nat.le_of_ble_eq_true rfl⟩ (fun r2 S1 H locs hq G => ?_)
  obtain ⟨hq1, hq2⟩ := hq
  rw [hq2] at G
  refine lv_to (y := 1) hq1 ?_
  refine lv_iload hx hb dL_law_3735 (lv_at hl 1 rfl) ?_
  refine lv_icmp_eq (tgt := 3742) hx hb dL_law_3737 (by decide) (fun c3 => ?_) (fun c3 => absurd (by decide +kernel) c3)
  refine lv_iload hx hb dL_law_3742 (lv_at hl 1 rfl) ?_
  refine lv_if_ne (tgt := 3759) hx hb dL_law_3744 (by decide) (fun c4 => ?_) (fun c4 => absurd c4 (by decide +kernel))
  refine lv_goto (tgt := 3975) hx hb dL_law_3759 (by decide) ?_
  refine lv_iinc (v := 6) (lv' := [(5, .int 6), (7, .int 0), (6, .int 1), (4, .ref (am 99)), (3, .ref (am 98)), (2, .ref (am 0)), (1, .ref (ad 0)), (0, .ref b)]) hx hb dL_law_3975 hl (k := 2) rfl (by decide +kernel) (by decide) rfl (fun ls hl => ?_)
  refine lv_goto (tgt := 28) hx hb dL_law_3978 (by decide) ?_
  refine lv_iload hx hb dL_law_28 (lv_at hl 0 rfl) ?_
  refine lv_aload_n hx hb dL_law_30 rfl (lv_at hl 7 rfl) ?_
  refine va_slen hx hb hX0 hbl (Nat.not_le.mpr hbl) G.2.2 dL_law_31 ?_
  refine lv_to (y := 6) (by decide) ?_
  refine lv_bipush (v := 6) hx hb dL_law_32 (by decide) ?_
  refine lv_isub hx hb dL_law_34 ?_
  refine lv_to (y := 0) (by decide +kernel) ?_
  refine lv_icmp_gt (tgt := 3981) hx hb dL_law_35 (by decide) (fun c5 => ?_) (fun c5 => absurd (by decide +kernel) c5)
  refine lv_iconst (v := 1) hx hb dL_law_3981 (by decide) ?_
  refine va_forget G.2.2.2.2 ?_
  refine W.widen (k := 600002) (n := 7302232) (Nat.le_of_ble_eq_true rfl) (Nat.le_of_ble_eq_true rfl) ?_
  exact lw_ret (d0 := s.drawn) (Drawn.sameBut.refl s.drawn lw_cs) hx hb hr hlocks dL_law_3982
set_option maxHeartbeats 4000000 in
set_option maxRecDepth 100000 in
theorem p_a59 {p : Program} {e : Env} {s : State} {m : MethodId} {below : List Frame} {meth : Method} {c : Code} (l : Launch) (hst : l.stackTraces = false) {b : Nat} {xs : Nat → Int32} (hx : p.tables.exec = Jvm.exec) (hb : c.code = code) (hr : meth.sig.returnType = ret) (hml : c.maxLocals = 9) (hown : s.vm.findClass RL = some m.cls) (hts : ∀ w ∈ lw_tbl, w.before #[Value.ref b] s = true) (hlocks : meth.locks = false) (hX0 : va_X b 6 xs s s.heap) (hbl : b < s.heap.size) (hX : xT (fun q => s.heap.size ≤ q) s) (hN1 : va_Nc xIAE xIOB s) (hN2 : va_Nc xISE xIOB s) {D : va_G} {cI cJ cZ cMic cSrc cSt cAI cAJ cD : ClassId} {ad am : Nat → Nat} {N : Nat} {S : Nat → va_E} {ls : Array Slot} {H : Heap} {locs : List Loc} (hK : va_K D vwCl (CT cI cJ cZ cMic cSrc cSt cAI cAJ ++ [(cD, .double)]) s) (hN : 1586 ≤ N) (F : FR cI cJ cZ cMic cSrc cSt cAI cAJ ad S) (G : lG D ad N cI cJ cZ am (fun q => s.heap.size ≤ q) s.heap H locs S mS0) (hl : lv_has ls 9 [(5, .int 0), (4, .ref (am 99)), (3, .ref (am 98)), (2, .ref (am 0)), (1, .ref (ad 0)), (0, .ref b)]) : W p l e room_1 s m #[Value.ref b] below meth c H locs 1605 82603 (lw_Z below #[Value.ref b] s) (F0 m 3762 ls []) := by
  obtain ⟨hS0, hS1, hS2, hS3, hS4, hS5, hS6, hS432, hS478, hS480, hS656, hS658⟩ := F
  have E : cE p c cL_law s m #[Value.ref b] lw_tbl D RL (CT cI cJ cZ cMic cSrc cSt cAI cAJ ++ [(cD, .double)]) := ⟨hx, hb, hts, hown, hK⟩
  have hKm : va_K D vwCl (MT cI cJ cZ) s := hK.sub [0, 1, 2] rfl
  have hKb : ∀ t : State, s.vm.Alike t.vm → va_K D vwCl (CT cI cJ cZ cMic cSrc cSt cAI cAJ ++ [(cD, .double)]) t := fun t h => va_K.moved h hK
  have hA : ∀ q : Nat, s.heap.size ≤ q → s.heap.size ≤ q := fun _ h => h
  refine lv_aload_n hx hb dL_law_3762 rfl (lv_at hl 4 rfl) ?_
  refine lv_aload_n hx hb dL_law_3763 rfl (lv_at hl 2 rfl) ?_
  refine l_w (As := [.ref (ad 0), .ref (am 98)]) (rest := []) E G hA hX hN1 hN2 (fun _ _ h _ _ k => va_Nc.moved h k) rfl hml (w_cleaned l hst D _ ad N S (sc := 478) (Nat.lt_of_lt_of_le (by decide) hN) hS0 rfl (Nat.lt_of_lt_of_le (by decide) hN) hS478 rfl (am 98)) (vx_cwSW 2 hts (glA (L := [Cond.methodLink RL 391 yL_cleaned, Cond.static yL_cleaned, Cond.initialized RL]) (gl_in [(7, 180), (7, 181), (1, 0)] (by decide +kernel) (by decide +kernel)) ⟨(t_of [Cond.codeWith yL_cleaned cL_cleaned 3 (some .int) [(0, 8, 11, 21)]] [(7, 182)] (by decide +kernel) _ List.mem_cons_self), List.all_eq_true.mp (by decide +kernel : [Cond.codeWith yL_cleaned cL_cleaned 3 (some .int) [(0, 8, 11, 21)]].all goodWord = true) _ List.mem_cons_self⟩) rfl rfl rfl (by decide +kernel) ⟨Nat.le_of_ble_eq_true rfl, Nat.le_of_ble_eq_true rfl⟩) rfl hl.1 rfl (lv_room (Nat.le_of_ble_eq_true rfl)) dL_law_3764 ⟨Nat.le_of_ble_eq_true rfl, Nat.le_of_ble_eq_true rfl⟩ (fun r S1 H locs hq G => ?_)
  obtain ⟨hq1, hq2⟩ := hq
  rw [hq2] at G
  refine lv_to (y := 1) hq1 ?_
  refine lv_istore (lv' := [(6, .int 1), (5, .int 0), (4, .ref (am 99)), (3, .ref (am 98)), (2, .ref (am 0)), (1, .ref (ad 0)), (0, .ref b)]) hx hb dL_law_3767 hl (by decide) rfl (fun ls hl => ?_)
  refine lv_aload_n hx hb dL_law_3769 rfl (lv_at hl 4 rfl) ?_
  refine l_mi (As := []) (rest := []) E G hA hKm hKb hX.2.2.2.2 hml (n_cleaned l D cI cJ cZ am mS0 rfl (fun _ => rfl)) (cwV 0 hts (glM (L := [Cond.methodLink RL 393 yX12_cleaned, Cond.instanceMethod yX12_cleaned, Cond.selects RX12 yX12_cleaned yX12_cleaned, Cond.initialized RX12]) (gl_in [(10, 193), (10, 194), (10, 195), (1, 14)] (by decide +kernel) (by decide +kernel)) ⟨(t_of [Cond.code yX12_cleaned cX12_cleaned 1 (some .int)] [(10, 196)] (by decide +kernel) _ List.mem_cons_self), List.all_eq_true.mp (by decide +kernel : [Cond.code yX12_cleaned cX12_cleaned 1 (some .int)].all goodWord = true) _ List.mem_cons_self⟩) rfl rfl rfl (by decide +kernel) ⟨Nat.le_of_ble_eq_true rfl, Nat.le_of_ble_eq_true rfl⟩) rfl hl.1 rfl (lv_room (Nat.le_of_ble_eq_true rfl)) dL_law_3770 ⟨Nat.le_of_ble_eq_true rfl, Nat.le_of_ble_eq_true rfl⟩ (fun r1 S1 H locs hq G => ?_)
  obtain ⟨hq1, hq2⟩ := hq
  rw [hq2] at G
  refine lv_to (y := 0) hq1 ?_
  refine lv_istore (lv' := [(7, .int 0), (6, .int 1), (5, .int 0), (4, .ref (am 99)), (3, .ref (am 98)), (2, .ref (am 0)), (1, .ref (ad 0)), (0, .ref b)]) hx hb dL_law_3773 hl (by decide) rfl (fun ls hl => ?_)
  refine lv_aload_n hx hb dL_law_3775 rfl (lv_at hl 5 rfl) ?_
  refine l_mi (As := []) (rest := []) E G hA hKm hKb hX.2.2.2.2 hml (m_thrown l D cI cJ cZ am (mi mS0 0 1)) (cwV 0 hts (glM (L := [Cond.methodLink RL 204 yX12_thrown, Cond.instanceMethod yX12_thrown, Cond.selects RX12 yX12_thrown yX12_thrown, Cond.initialized RX12]) (gl_in [(8, 65), (8, 66), (8, 67), (1, 14)] (by decide +kernel) (by decide +kernel)) ⟨(t_of [Cond.code yX12_thrown cX12_thrown 1 (some .int)] [(8, 68)] (by decide +kernel) _ List.mem_cons_self), List.all_eq_true.mp (by decide +kernel : [Cond.code yX12_thrown cX12_thrown 1 (some .int)].all goodWord = true) _ List.mem_cons_self⟩) rfl rfl rfl (by decide +kernel) ⟨Nat.le_of_ble_eq_true rfl, Nat.le_of_ble_eq_true rfl⟩) rfl hl.1 rfl (lv_room (Nat.le_of_ble_eq_true rfl)) dL_law_3776 ⟨Nat.le_of_ble_eq_true rfl, Nat.le_of_ble_eq_true rfl⟩ (fun r2 S1 H locs hq G => ?_)
  obtain ⟨hq1, hq2⟩ := hq
  rw [hq2] at G
  refine lv_to (y := 1) hq1 ?_
  refine lv_iload hx hb dL_law_3779 (lv_at hl 1 rfl) ?_
  refine lv_icmp_eq (tgt := 3786) hx hb dL_law_3781 (by decide) (fun c3 => ?_) (fun c3 => absurd (by decide +kernel) c3)
  refine lv_iload hx hb dL_law_3786 (lv_at hl 1 rfl) ?_
  refine lv_if_ne (tgt := 3803) hx hb dL_law_3788 (by decide) (fun c4 => ?_) (fun c4 => absurd c4 (by decide +kernel))
  refine lv_goto (tgt := 3975) hx hb dL_law_3803 (by decide) ?_
  refine lv_iinc (v := 6) (lv' := [(5, .int 6), (7, .int 0), (6, .int 1), (4, .ref (am 99)), (3, .ref (am 98)), (2, .ref (am 0)), (1, .ref (ad 0)), (0, .ref b)]) hx hb dL_law_3975 hl (k := 2) rfl (by decide +kernel) (by decide) rfl (fun ls hl => ?_)
  refine lv_goto (tgt := 28) hx hb dL_law_3978 (by decide) ?_
  refine lv_iload hx hb dL_law_28 (lv_at hl 0 rfl) ?_
  refine lv_aload_n hx hb dL_law_30 rfl (lv_at hl 7 rfl) ?_
  refine va_slen hx hb hX0 hbl (Nat.not_le.mpr hbl) G.2.2 dL_law_31 ?_
  refine lv_to (y := 6) (by decide) ?_
  refine lv_bipush (v := 6) hx hb dL_law_32 (by decide) ?_
  refine lv_isub hx hb dL_law_34 ?_
  refine lv_to (y := 0) (by decide +kernel) ?_
  refine lv_icmp_gt (tgt := 3981) hx hb dL_law_35 (by decide) (fun c5 => ?_) (fun c5 => absurd (by decide +kernel) c5)
  refine lv_iconst (v := 1) hx hb dL_law_3981 (by decide) ?_
  refine va_forget G.2.2.2.2 ?_
  refine W.widen (k := 600002) (n := 7302232) (Nat.le_of_ble_eq_true rfl) (Nat.le_of_ble_eq_true rfl) ?_
  exact lw_ret (d0 := s.drawn) (Drawn.sameBut.refl s.drawn lw_cs) hx hb hr hlocks dL_law_3982
set_option maxHeartbeats 4000000 in
set_option maxRecDepth 100000 in
theorem p_a60 {p : Program} {e : Env} {s : State} {m : MethodId} {below : List Frame} {meth : Method} {c : Code} (l : Launch) (hst : l.stackTraces = false) {b : Nat} {xs : Nat → Int32} (hx : p.tables.exec = Jvm.exec) (hb : c.code = code) (hr : meth.sig.returnType = ret) (hml : c.maxLocals = 9) (hown : s.vm.findClass RL = some m.cls) (hts : ∀ w ∈ lw_tbl, w.before #[Value.ref b] s = true) (hlocks : meth.locks = false) (hX0 : va_X b 6 xs s s.heap) (hbl : b < s.heap.size) (hX : xT (fun q => s.heap.size ≤ q) s) (hN1 : va_Nc xIAE xIOB s) (hN2 : va_Nc xISE xIOB s) {D : va_G} {cI cJ cZ cMic cSrc cSt cAI cAJ cD : ClassId} {ad am : Nat → Nat} {N : Nat} {S : Nat → va_E} {ls : Array Slot} {H : Heap} {locs : List Loc} (hK : va_K D vwCl (CT cI cJ cZ cMic cSrc cSt cAI cAJ ++ [(cD, .double)]) s) (hN : 1586 ≤ N) (F : FR cI cJ cZ cMic cSrc cSt cAI cAJ ad S) (G : lG D ad N cI cJ cZ am (fun q => s.heap.size ≤ q) s.heap H locs S mS0) (hl : lv_has ls 9 [(5, .int 0), (4, .ref (am 99)), (3, .ref (am 98)), (2, .ref (am 0)), (1, .ref (ad 0)), (0, .ref b)]) : W p l e room_1 s m #[Value.ref b] below meth c H locs 1605 82603 (lw_Z below #[Value.ref b] s) (F0 m 3806 ls []) := by
  obtain ⟨hS0, hS1, hS2, hS3, hS4, hS5, hS6, hS432, hS478, hS480, hS656, hS658⟩ := F
  have E : cE p c cL_law s m #[Value.ref b] lw_tbl D RL (CT cI cJ cZ cMic cSrc cSt cAI cAJ ++ [(cD, .double)]) := ⟨hx, hb, hts, hown, hK⟩
  have hKm : va_K D vwCl (MT cI cJ cZ) s := hK.sub [0, 1, 2] rfl
  have hKb : ∀ t : State, s.vm.Alike t.vm → va_K D vwCl (CT cI cJ cZ cMic cSrc cSt cAI cAJ ++ [(cD, .double)]) t := fun t h => va_K.moved h hK
  have hA : ∀ q : Nat, s.heap.size ≤ q → s.heap.size ≤ q := fun _ h => h
  refine lv_aload_n hx hb dL_law_3806 rfl (lv_at hl 4 rfl) ?_
  refine lv_aload_n hx hb dL_law_3807 rfl (lv_at hl 2 rfl) ?_
  refine l_w (As := [.ref (ad 0), .ref (am 98)]) (rest := []) E G hA hX hN1 hN2 (fun _ _ h _ _ k => va_Nc.moved h k) rfl hml (w_undo l hst D _ ad N S cI cJ cZ cMic cSrc cSt cAI cAJ hN rfl rfl hS0 (am 98)) (vx_cwSW 2 hts (glA (L := [Cond.methodLink RL 394 yL_undo, Cond.static yL_undo, Cond.initialized RL]) (gl_in [(7, 187), (7, 188), (1, 0)] (by decide +kernel) (by decide +kernel)) ⟨(t_of [Cond.codeWith yL_undo cL_undo 3 (some .int) [(0, 8, 11, 21)]] [(7, 189)] (by decide +kernel) _ List.mem_cons_self), List.all_eq_true.mp (by decide +kernel : [Cond.codeWith yL_undo cL_undo 3 (some .int) [(0, 8, 11, 21)]].all goodWord = true) _ List.mem_cons_self⟩) rfl rfl rfl (by decide +kernel) ⟨Nat.le_of_ble_eq_true rfl, Nat.le_of_ble_eq_true rfl⟩) rfl hl.1 rfl (lv_room (Nat.le_of_ble_eq_true rfl)) dL_law_3808 ⟨Nat.le_of_ble_eq_true rfl, Nat.le_of_ble_eq_true rfl⟩ (fun r S1 H locs hq G => ?_)
  obtain ⟨hq1, hq2⟩ := hq
  rw [hq2] at G
  refine lv_to (y := 1) hq1 ?_
  refine lv_istore (lv' := [(6, .int 1), (5, .int 0), (4, .ref (am 99)), (3, .ref (am 98)), (2, .ref (am 0)), (1, .ref (ad 0)), (0, .ref b)]) hx hb dL_law_3811 hl (by decide) rfl (fun ls hl => ?_)
  refine lv_aload_n hx hb dL_law_3813 rfl (lv_at hl 4 rfl) ?_
  refine l_mi (As := []) (rest := []) E G hA hKm hKb hX.2.2.2.2 hml (n_undo l D cI cJ cZ am mS0 rfl) (cwV 0 hts (glM (L := [Cond.methodLink RL 396 yX12_undo, Cond.instanceMethod yX12_undo, Cond.selects RX12 yX12_undo yX12_undo, Cond.initialized RX12]) (gl_in [(10, 197), (10, 198), (10, 199), (1, 14)] (by decide +kernel) (by decide +kernel)) ⟨(t_of [Cond.code yX12_undo cX12_undo 1 (some .int)] [(10, 200)] (by decide +kernel) _ List.mem_cons_self), List.all_eq_true.mp (by decide +kernel : [Cond.code yX12_undo cX12_undo 1 (some .int)].all goodWord = true) _ List.mem_cons_self⟩) rfl rfl rfl (by decide +kernel) ⟨Nat.le_of_ble_eq_true rfl, Nat.le_of_ble_eq_true rfl⟩) rfl hl.1 rfl (lv_room (Nat.le_of_ble_eq_true rfl)) dL_law_3814 ⟨Nat.le_of_ble_eq_true rfl, Nat.le_of_ble_eq_true rfl⟩ (fun r1 S1 H locs hq G => ?_)
  obtain ⟨hq1, hq2⟩ := hq
  rw [hq2] at G
  refine lv_to (y := 0) hq1 ?_
  refine lv_istore (lv' := [(7, .int 0), (6, .int 1), (5, .int 0), (4, .ref (am 99)), (3, .ref (am 98)), (2, .ref (am 0)), (1, .ref (ad 0)), (0, .ref b)]) hx hb dL_law_3817 hl (by decide) rfl (fun ls hl => ?_)
  refine lv_aload_n hx hb dL_law_3819 rfl (lv_at hl 5 rfl) ?_
  refine l_mi (As := []) (rest := []) E G hA hKm hKb hX.2.2.2.2 hml (m_thrown l D cI cJ cZ am (mi mS0 0 1)) (cwV 0 hts (glM (L := [Cond.methodLink RL 204 yX12_thrown, Cond.instanceMethod yX12_thrown, Cond.selects RX12 yX12_thrown yX12_thrown, Cond.initialized RX12]) (gl_in [(8, 65), (8, 66), (8, 67), (1, 14)] (by decide +kernel) (by decide +kernel)) ⟨(t_of [Cond.code yX12_thrown cX12_thrown 1 (some .int)] [(8, 68)] (by decide +kernel) _ List.mem_cons_self), List.all_eq_true.mp (by decide +kernel : [Cond.code yX12_thrown cX12_thrown 1 (some .int)].all goodWord = true) _ List.mem_cons_self⟩) rfl rfl rfl (by decide +kernel) ⟨Nat.le_of_ble_eq_true rfl, Nat.le_of_ble_eq_true rfl⟩) rfl hl.1 rfl (lv_room (Nat.le_of_ble_eq_true rfl)) dL_law_3820 ⟨Nat.le_of_ble_eq_true rfl, Nat.le_of_ble_eq_true rfl⟩ (fun r2 S1 H locs hq G => ?_)
  obtain ⟨hq1, hq2⟩ := hq
  rw [hq2] at G
  refine lv_to (y := 1) hq1 ?_
  refine lv_iload hx hb dL_law_3823 (lv_at hl 1 rfl) ?_
  refine lv_icmp_eq (tgt := 3830) hx hb dL_law_3825 (by decide) (fun c3 => ?_) (fun c3 => absurd (by decide +kernel) c3)
  refine lv_iload hx hb dL_law_3830 (lv_at hl 1 rfl) ?_
  refine lv_if_ne (tgt := 3847) hx hb dL_law_3832 (by decide) (fun c4 => ?_) (fun c4 => absurd c4 (by decide +kernel))
  refine lv_goto (tgt := 3975) hx hb dL_law_3847 (by decide) ?_
  refine lv_iinc (v := 6) (lv' := [(5, .int 6), (7, .int 0), (6, .int 1), (4, .ref (am 99)), (3, .ref (am 98)), (2, .ref (am 0)), (1, .ref (ad 0)), (0, .ref b)]) hx hb dL_law_3975 hl (k := 2) rfl (by decide +kernel) (by decide) rfl (fun ls hl => ?_)
  refine lv_goto (tgt := 28) hx hb dL_law_3978 (by decide) ?_
  refine lv_iload hx hb dL_law_28 (lv_at hl 0 rfl) ?_
  refine lv_aload_n hx hb dL_law_30 rfl (lv_at hl 7 rfl) ?_
  refine va_slen hx hb hX0 hbl (Nat.not_le.mpr hbl) G.2.2 dL_law_31 ?_
  refine lv_to (y := 6) (by decide) ?_
  refine lv_bipush (v := 6) hx hb dL_law_32 (by decide) ?_
  refine lv_isub hx hb dL_law_34 ?_
  refine lv_to (y := 0) (by decide +kernel) ?_
  refine lv_icmp_gt (tgt := 3981) hx hb dL_law_35 (by decide) (fun c5 => ?_) (fun c5 => absurd (by decide +kernel) c5)
  refine lv_iconst (v := 1) hx hb dL_law_3981 (by decide) ?_
  refine va_forget G.2.2.2.2 ?_
  refine W.widen (k := 600002) (n := 7302232) (Nat.le_of_ble_eq_true rfl) (Nat.le_of_ble_eq_true rfl) ?_
  exact lw_ret (d0 := s.drawn) (Drawn.sameBut.refl s.drawn lw_cs) hx hb hr hlocks dL_law_3982
set_option maxHeartbeats 4000000 in
set_option maxRecDepth 100000 in
theorem p_a61 {p : Program} {e : Env} {s : State} {m : MethodId} {below : List Frame} {meth : Method} {c : Code} (l : Launch) (hst : l.stackTraces = false) {b : Nat} {xs : Nat → Int32} (hx : p.tables.exec = Jvm.exec) (hb : c.code = code) (hr : meth.sig.returnType = ret) (hml : c.maxLocals = 9) (hown : s.vm.findClass RL = some m.cls) (hts : ∀ w ∈ lw_tbl, w.before #[Value.ref b] s = true) (hlocks : meth.locks = false) (hX0 : va_X b 6 xs s s.heap) (hbl : b < s.heap.size) (hX : xT (fun q => s.heap.size ≤ q) s) (hN1 : va_Nc xIAE xIOB s) (hN2 : va_Nc xISE xIOB s) {D : va_G} {cI cJ cZ cMic cSrc cSt cAI cAJ cD : ClassId} {ad am : Nat → Nat} {N : Nat} {S : Nat → va_E} {ls : Array Slot} {H : Heap} {locs : List Loc} (hK : va_K D vwCl (CT cI cJ cZ cMic cSrc cSt cAI cAJ ++ [(cD, .double)]) s) (hN : 1586 ≤ N) (F : FR cI cJ cZ cMic cSrc cSt cAI cAJ ad S) (G : lG D ad N cI cJ cZ am (fun q => s.heap.size ≤ q) s.heap H locs S mS0) (hl : lv_has ls 9 [(5, .int 0), (4, .ref (am 99)), (3, .ref (am 98)), (2, .ref (am 0)), (1, .ref (ad 0)), (0, .ref b)]) : W p l e room_1 s m #[Value.ref b] below meth c H locs 1605 82603 (lw_Z below #[Value.ref b] s) (F0 m 3850 ls []) := by
  obtain ⟨hS0, hS1, hS2, hS3, hS4, hS5, hS6, hS432, hS478, hS480, hS656, hS658⟩ := F
  have E : cE p c cL_law s m #[Value.ref b] lw_tbl D RL (CT cI cJ cZ cMic cSrc cSt cAI cAJ ++ [(cD, .double)]) := ⟨hx, hb, hts, hown, hK⟩
  have hKm : va_K D vwCl (MT cI cJ cZ) s := hK.sub [0, 1, 2] rfl
  have hKb : ∀ t : State, s.vm.Alike t.vm → va_K D vwCl (CT cI cJ cZ cMic cSrc cSt cAI cAJ ++ [(cD, .double)]) t := fun t h => va_K.moved h hK
  have hA : ∀ q : Nat, s.heap.size ≤ q → s.heap.size ≤ q := fun _ h => h
  refine lv_aload_n hx hb dL_law_3850 rfl (lv_at hl 4 rfl) ?_
  refine l_ci (As := []) (rest := []) E G hA hX rfl hml (f_undoable l hst D _ ad N S cI cJ cZ cMic cSrc cSt cAI cAJ hN rfl rfl hS0) (cwV 0 hts (glA (L := [Cond.methodLink RL 397 yX11_undoable, Cond.instanceMethod yX11_undoable, Cond.selects RX11 yX11_undoable yX11_undoable, Cond.initialized RX11]) (gl_in [(3, 88), (3, 89), (3, 90), (1, 1)] (by decide +kernel) (by decide +kernel)) ⟨(t_of [Cond.code yX11_undoable cX11_undoable 1 (some .int)] [(3, 91)] (by decide +kernel) _ List.mem_cons_self), List.all_eq_true.mp (by decide +kernel : [Cond.code yX11_undoable cX11_undoable 1 (some .int)].all goodWord = true) _ List.mem_cons_self⟩) rfl rfl rfl (by decide +kernel) ⟨Nat.le_of_ble_eq_true rfl, Nat.le_of_ble_eq_true rfl⟩) (Nat.lt_of_lt_of_le (by decide) hN) hS0 rfl hl.1 rfl (lv_room (Nat.le_of_ble_eq_true rfl)) dL_law_3851 ⟨Nat.le_of_ble_eq_true rfl, Nat.le_of_ble_eq_true rfl⟩ (fun r1 S1 H locs hq G => ?_)
  obtain ⟨hq1, hq2⟩ := hq
  rw [hq2] at G
  refine lv_to (y := 0) hq1 ?_
  refine lv_aload_n hx hb dL_law_3854 rfl (lv_at hl 3 rfl) ?_
  refine l_mi (As := []) (rest := [.int 0]) E G hA hKm hKb hX.2.2.2.2 hml (m_undoable l D cI cJ cZ am mS0) (cwV 0 hts (glM (L := [Cond.methodLink RL 400 yX12_undoable, Cond.instanceMethod yX12_undoable, Cond.selects RX12 yX12_undoable yX12_undoable, Cond.initialized RX12]) (gl_in [(10, 201), (10, 202), (10, 203), (1, 14)] (by decide +kernel) (by decide +kernel)) ⟨(t_of [Cond.code yX12_undoable cX12_undoable 1 (some .int)] [(10, 204)] (by decide +kernel) _ List.mem_cons_self), List.all_eq_true.mp (by decide +kernel : [Cond.code yX12_undoable cX12_undoable 1 (some .int)].all goodWord = true) _ List.mem_cons_self⟩) rfl rfl rfl (by decide +kernel) ⟨Nat.le_of_ble_eq_true rfl, Nat.le_of_ble_eq_true rfl⟩) rfl hl.1 rfl (lv_room (Nat.le_of_ble_eq_true rfl)) dL_law_3855 ⟨Nat.le_of_ble_eq_true rfl, Nat.le_of_ble_eq_true rfl⟩ (fun r2 S1 H locs hq G => ?_)
  obtain ⟨hq1, hq2⟩ := hq
  rw [hq2] at G
  refine lv_to (y := 0) hq1 ?_
  refine lv_icmp_eq (tgt := 3975) hx hb dL_law_3858 (by decide) (fun c3 => ?_) (fun c3 => absurd (by decide +kernel) c3)
  refine lv_iinc (v := 6) (lv' := [(5, .int 6), (4, .ref (am 99)), (3, .ref (am 98)), (2, .ref (am 0)), (1, .ref (ad 0)), (0, .ref b)]) hx hb dL_law_3975 hl (k := 0) rfl (by decide +kernel) (by decide) rfl (fun ls hl => ?_)
  refine lv_goto (tgt := 28) hx hb dL_law_3978 (by decide) ?_
  refine lv_iload hx hb dL_law_28 (lv_at hl 0 rfl) ?_
  refine lv_aload_n hx hb dL_law_30 rfl (lv_at hl 5 rfl) ?_
  refine va_slen hx hb hX0 hbl (Nat.not_le.mpr hbl) G.2.2 dL_law_31 ?_
  refine lv_to (y := 6) (by decide) ?_
  refine lv_bipush (v := 6) hx hb dL_law_32 (by decide) ?_
  refine lv_isub hx hb dL_law_34 ?_
  refine lv_to (y := 0) (by decide +kernel) ?_
  refine lv_icmp_gt (tgt := 3981) hx hb dL_law_35 (by decide) (fun c4 => ?_) (fun c4 => absurd (by decide +kernel) c4)
  refine lv_iconst (v := 1) hx hb dL_law_3981 (by decide) ?_
  refine va_forget G.2.2.2.2 ?_
  refine W.widen (k := 600002) (n := 7302232) (Nat.le_of_ble_eq_true rfl) (Nat.le_of_ble_eq_true rfl) ?_
  exact lw_ret (d0 := s.drawn) (Drawn.sameBut.refl s.drawn lw_cs) hx hb hr hlocks dL_law_3982
set_option maxHeartbeats 4000000 in
set_option maxRecDepth 100000 in
theorem p_a62 {p : Program} {e : Env} {s : State} {m : MethodId} {below : List Frame} {meth : Method} {c : Code} (l : Launch) (hst : l.stackTraces = false) {b : Nat} {xs : Nat → Int32} (hx : p.tables.exec = Jvm.exec) (hb : c.code = code) (hr : meth.sig.returnType = ret) (hml : c.maxLocals = 9) (hown : s.vm.findClass RL = some m.cls) (hts : ∀ w ∈ lw_tbl, w.before #[Value.ref b] s = true) (hlocks : meth.locks = false) (hX0 : va_X b 6 xs s s.heap) (hbl : b < s.heap.size) (hX : xT (fun q => s.heap.size ≤ q) s) (hN1 : va_Nc xIAE xIOB s) (hN2 : va_Nc xISE xIOB s) {D : va_G} {cI cJ cZ cMic cSrc cSt cAI cAJ cD : ClassId} {ad am : Nat → Nat} {N : Nat} {S : Nat → va_E} {ls : Array Slot} {H : Heap} {locs : List Loc} (hK : va_K D vwCl (CT cI cJ cZ cMic cSrc cSt cAI cAJ ++ [(cD, .double)]) s) (hN : 1586 ≤ N) (F : FR cI cJ cZ cMic cSrc cSt cAI cAJ ad S) (G : lG D ad N cI cJ cZ am (fun q => s.heap.size ≤ q) s.heap H locs S mS0) (hl : lv_has ls 9 [(5, .int 0), (4, .ref (am 99)), (3, .ref (am 98)), (2, .ref (am 0)), (1, .ref (ad 0)), (0, .ref b)]) : W p l e room_1 s m #[Value.ref b] below meth c H locs 1605 82603 (lw_Z below #[Value.ref b] s) (F0 m 3863 ls []) := by
  obtain ⟨hS0, hS1, hS2, hS3, hS4, hS5, hS6, hS432, hS478, hS480, hS656, hS658⟩ := F
  have E : cE p c cL_law s m #[Value.ref b] lw_tbl D RL (CT cI cJ cZ cMic cSrc cSt cAI cAJ ++ [(cD, .double)]) := ⟨hx, hb, hts, hown, hK⟩
  have hKm : va_K D vwCl (MT cI cJ cZ) s := hK.sub [0, 1, 2] rfl
  have hKb : ∀ t : State, s.vm.Alike t.vm → va_K D vwCl (CT cI cJ cZ cMic cSrc cSt cAI cAJ ++ [(cD, .double)]) t := fun t h => va_K.moved h hK
  have hA : ∀ q : Nat, s.heap.size ≤ q → s.heap.size ≤ q := fun _ h => h
  refine lv_aload_n hx hb dL_law_3863 rfl (lv_at hl 4 rfl) ?_
  refine lv_aload_n hx hb dL_law_3864 rfl (lv_at hl 5 rfl) ?_
  refine lv_iload hx hb dL_law_3865 (lv_at hl 0 rfl) ?_
  refine lv_iconst (v := 1) hx hb dL_law_3867 (by decide) ?_
  refine lv_iadd hx hb dL_law_3868 ?_
  refine lv_to (y := 1) (by decide +kernel) ?_
  refine va_sld hx hb hX0 hbl (Nat.not_le.mpr hbl) G.2.2 (i := 1) (vp_in_nI (n := 1) (N := 6) (by decide) (by decide)) dL_law_3869 ?_
  refine lv_to (y := xs 1) (congrArg xs (by decide)) ?_
  refine lv_aload_n hx hb dL_law_3870 rfl (lv_at hl 2 rfl) ?_
  refine l_w (As := [.ref (ad 0), .int (xs 1), .ref (am 98)]) (rest := []) E G hA hX hN1 hN2 (fun _ _ h _ _ k => va_Nc.moved h k) rfl hml (w_save l hst D _ ad N S (sc := 478) (Nat.lt_of_lt_of_le (by decide) hN) hS0 rfl (Nat.lt_of_lt_of_le (by decide) hN) hS478 rfl (xs 1) (am 98)) (vx_cwSW 3 hts (glA (L := [Cond.methodLink RL 401 yL_save, Cond.static yL_save, Cond.initialized RL]) (gl_in [(7, 194), (7, 195), (1, 0)] (by decide +kernel) (by decide +kernel)) ⟨(t_of [Cond.codeWith yL_save cL_save 4 (some .int) [(0, 9, 12, 21), (0, 9, 15, 13)]] [(7, 196)] (by decide +kernel) _ List.mem_cons_self), List.all_eq_true.mp (by decide +kernel : [Cond.codeWith yL_save cL_save 4 (some .int) [(0, 9, 12, 21), (0, 9, 15, 13)]].all goodWord = true) _ List.mem_cons_self⟩) rfl rfl rfl (by decide +kernel) ⟨Nat.le_of_ble_eq_true rfl, Nat.le_of_ble_eq_true rfl⟩) rfl hl.1 rfl (lv_room (Nat.le_of_ble_eq_true rfl)) dL_law_3871 ⟨Nat.le_of_ble_eq_true rfl, Nat.le_of_ble_eq_true rfl⟩ (fun r S1 H locs hq G => ?_)
  obtain ⟨hq1, hq2⟩ := hq
  rw [hq2] at G
  refine lv_to (y := 1) hq1 ?_
  refine lv_istore (lv' := [(6, .int 1), (5, .int 0), (4, .ref (am 99)), (3, .ref (am 98)), (2, .ref (am 0)), (1, .ref (ad 0)), (0, .ref b)]) hx hb dL_law_3874 hl (by decide) rfl (fun ls hl => ?_)
  refine lv_aload_n hx hb dL_law_3876 rfl (lv_at hl 4 rfl) ?_
  refine lv_aload_n hx hb dL_law_3877 rfl (lv_at hl 6 rfl) ?_
  refine lv_iload hx hb dL_law_3878 (lv_at hl 1 rfl) ?_
  refine lv_iconst (v := 1) hx hb dL_law_3880 (by decide) ?_
  refine lv_iadd hx hb dL_law_3881 ?_
  refine lv_to (y := 1) (by decide +kernel) ?_
  refine va_sld hx hb hX0 hbl (Nat.not_le.mpr hbl) G.2.2 (i := 1) (vp_in_nI (n := 1) (N := 6) (by decide) (by decide)) dL_law_3882 ?_
  refine lv_to (y := xs 1) (congrArg xs (by decide)) ?_
  refine l_mi (As := [.int (xs 1)]) (rest := []) E G hA hKm hKb hX.2.2.2.2 hml (n_save l D cI cJ cZ am mS0 (xs 1) rfl (fun _ => rfl)) (cwV 1 hts (glM (L := [Cond.methodLink RL 403 yX12_save, Cond.instanceMethod yX12_save, Cond.selects RX12 yX12_save yX12_save, Cond.initialized RX12]) (gl_in [(10, 205), (10, 206), (10, 207), (1, 14)] (by decide +kernel) (by decide +kernel)) ⟨(t_of [Cond.code yX12_save cX12_save 2 (some .int)] [(10, 208)] (by decide +kernel) _ List.mem_cons_self), List.all_eq_true.mp (by decide +kernel : [Cond.code yX12_save cX12_save 2 (some .int)].all goodWord = true) _ List.mem_cons_self⟩) rfl rfl rfl (by decide +kernel) ⟨Nat.le_of_ble_eq_true rfl, Nat.le_of_ble_eq_true rfl⟩) rfl hl.1 rfl (lv_room (Nat.le_of_ble_eq_true rfl)) dL_law_3883 ⟨Nat.le_of_ble_eq_true rfl, Nat.le_of_ble_eq_true rfl⟩ (fun r1 S1 H locs hq G => ?_)
  obtain ⟨hq1, hq2⟩ := hq
  rw [hq2] at G
  refine lv_to (y := 0) hq1 ?_
  refine lv_istore (lv' := [(7, .int 0), (6, .int 1), (5, .int 0), (4, .ref (am 99)), (3, .ref (am 98)), (2, .ref (am 0)), (1, .ref (ad 0)), (0, .ref b)]) hx hb dL_law_3886 hl (by decide) rfl (fun ls hl => ?_)
  refine lv_aload_n hx hb dL_law_3888 rfl (lv_at hl 5 rfl) ?_
  refine l_mi (As := []) (rest := []) E G hA hKm hKb hX.2.2.2.2 hml (m_thrown l D cI cJ cZ am (mi mS0 0 1)) (cwV 0 hts (glM (L := [Cond.methodLink RL 204 yX12_thrown, Cond.instanceMethod yX12_thrown, Cond.selects RX12 yX12_thrown yX12_thrown, Cond.initialized RX12]) (gl_in [(8, 65), (8, 66), (8, 67), (1, 14)] (by decide +kernel) (by decide +kernel)) ⟨(t_of [Cond.code yX12_thrown cX12_thrown 1 (some .int)] [(8, 68)] (by decide +kernel) _ List.mem_cons_self), List.all_eq_true.mp (by decide +kernel : [Cond.code yX12_thrown cX12_thrown 1 (some .int)].all goodWord = true) _ List.mem_cons_self⟩) rfl rfl rfl (by decide +kernel) ⟨Nat.le_of_ble_eq_true rfl, Nat.le_of_ble_eq_true rfl⟩) rfl hl.1 rfl (lv_room (Nat.le_of_ble_eq_true rfl)) dL_law_3889 ⟨Nat.le_of_ble_eq_true rfl, Nat.le_of_ble_eq_true rfl⟩ (fun r2 S1 H locs hq G => ?_)
  obtain ⟨hq1, hq2⟩ := hq
  rw [hq2] at G
  refine lv_to (y := 1) hq1 ?_
  refine lv_iload hx hb dL_law_3892 (lv_at hl 1 rfl) ?_
  refine lv_icmp_eq (tgt := 3899) hx hb dL_law_3894 (by decide) (fun c3 => ?_) (fun c3 => absurd (by decide +kernel) c3)
  refine lv_iload hx hb dL_law_3899 (lv_at hl 1 rfl) ?_
  refine lv_if_ne (tgt := 3916) hx hb dL_law_3901 (by decide) (fun c4 => ?_) (fun c4 => absurd c4 (by decide +kernel))
  refine lv_goto (tgt := 3975) hx hb dL_law_3916 (by decide) ?_
  refine lv_iinc (v := 6) (lv' := [(5, .int 6), (7, .int 0), (6, .int 1), (4, .ref (am 99)), (3, .ref (am 98)), (2, .ref (am 0)), (1, .ref (ad 0)), (0, .ref b)]) hx hb dL_law_3975 hl (k := 2) rfl (by decide +kernel) (by decide) rfl (fun ls hl => ?_)
  refine lv_goto (tgt := 28) hx hb dL_law_3978 (by decide) ?_
  refine lv_iload hx hb dL_law_28 (lv_at hl 0 rfl) ?_
  refine lv_aload_n hx hb dL_law_30 rfl (lv_at hl 7 rfl) ?_
  refine va_slen hx hb hX0 hbl (Nat.not_le.mpr hbl) G.2.2 dL_law_31 ?_
  refine lv_to (y := 6) (by decide) ?_
  refine lv_bipush (v := 6) hx hb dL_law_32 (by decide) ?_
  refine lv_isub hx hb dL_law_34 ?_
  refine lv_to (y := 0) (by decide +kernel) ?_
  refine lv_icmp_gt (tgt := 3981) hx hb dL_law_35 (by decide) (fun c5 => ?_) (fun c5 => absurd (by decide +kernel) c5)
  refine lv_iconst (v := 1) hx hb dL_law_3981 (by decide) ?_
  refine va_forget G.2.2.2.2 ?_
  refine W.widen (k := 600002) (n := 7302232) (Nat.le_of_ble_eq_true rfl) (Nat.le_of_ble_eq_true rfl) ?_
  exact lw_ret (d0 := s.drawn) (Drawn.sameBut.refl s.drawn lw_cs) hx hb hr hlocks dL_law_3982
